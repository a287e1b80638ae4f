/-! ===== the relation of the two objects; what keeps it ===== -/
def RTe (W : Wp) (M : Md) : Prop := tele (wpT W) = mta M ∧ ten (wpT W) = mtn M
def RRw (W : Wp) (M : Md) : Prop := rwnu (wpR W) = mli M ∧ rwn (wpR W) = mln M ∧ rwwy (wpR W) = mwy M
def RIm (W : Wp) (M : Md) : Prop := wpI W = mke M ∧ (wpI W = true → PR (wpK W) (mth M)) ∧ ∀ j, j < 80 → mth M j < 100
def RPl (W : Wp) (M : Md) : Prop := PR (wpP W) (mno M) ∧ ∀ j, j < 80 → mno M j < 100
def Rel (W : Wp) (M : Md) : Prop := WpOk W ∧ RPl W M ∧ RIm W M ∧ RTe W M ∧ RRw W M ∧ wpF W = mrf M ∧ MfR M
def Sim (a : Int32 × Wp) (b : Int32 × Md) : Prop := a.1 = b.1 ∧ Rel a.2 b.2
theorem Rel.no {W : Wp} {M : Md} (h : Rel W M) (k : Nat) : Rel (rfu W k) (mNo M k) := by
  obtain ⟨h1, h2, h3, h4, h5, h6, h7⟩ := h
  refine ⟨h1, h2, h3, h4, h5, ?_, h7⟩
  show va_up (wpF W) k (wpF W k + 1) = va_up (mrf M) k (mrf M k + 1)
  rw [h6]
theorem Rel.C {W : Wp} {M : Md} (h : Rel W M) (C : MC) : Rel W (sC M C) := h
theorem Rel.Y {W : Wp} {M : Md} (h : Rel W M) (D : Dy) (C : MC) : Rel (swY W D) (sC M C) := h
theorem Rel.SD {W : Wp} {M : Md} (h : Rel W M) (Q : Pl) (S : Pr) (C : MC) : Rel (swS (swD W Q) S) (sC M C) := h
theorem Sim.no {W : Wp} {M : Md} (h : Rel W M) (x : Int32) (k : Nat) : Sim (x, rfu W k) (x, mNo M k) := ⟨rfl, h.no k⟩
theorem Rel.mr {W : Wp} {M : Md} (h : Rel W M) : MnR (mno M) := by
  obtain ⟨⟨o, _⟩, ⟨pr, hb⟩, _⟩ := h
  obtain ⟨p0, p1, p2, p3, _⟩ := pr
  obtain ⟨o1, o2, o3, o4, _⟩ := o
  exact ⟨by omega, by omega, by omega, by omega, hb⟩
theorem sim_letter {W : Wp} {M : Md} (h : Rel W M) (x : Int32) : Sim (wLetter W x) (mLetter M x) := by
  have h' := h
  obtain ⟨⟨w1, w2, w3, w4⟩, h2, h3, h4, h5, h6, h7⟩ := h
  obtain ⟨t1, t2⟩ := h4
  unfold wLetter mLetter
  by_cases h0 : x < 0
  · rw [if_pos h0, if_pos h0]; exact Sim.no h' _ _
  · rw [if_neg h0, if_neg h0]
    have hT : ten (wpT W) ≤ 80 := w3.1
    by_cases hc : nI 255 < x ∨ 80 ≤ ten (wpT W)
    · rw [if_pos hc, if_pos (hc.elim Or.inl (fun q => Or.inr (by omega)))]; exact Sim.no h' _ _
    · rw [if_neg hc, if_neg (fun q => hc (q.elim Or.inl (fun q => Or.inr (by omega))))]
      obtain ⟨k, hk, rfl⟩ := nI_of h0
      rw [nI_clamp hk, t1, t2]
      have k5 : k < 256 := by
        by_cases q : k < 256
        · exact q
        · exact absurd (Or.inl ((nI_ltI (by decide) hk).mpr (by omega))) hc
      have n8 : mtn M < 80 := by
        by_cases q : mtn M < 80
        · exact q
        · exact absurd (Or.inr (by omega)) hc
      refine ⟨rfl, ⟨w1, w2, ⟨n8, fun i hi => ?_⟩, w4⟩, h2, h3, ⟨rfl, rfl⟩, h5, h6, h7⟩
      have hi : i < mtn M + 1 := hi
      show va_up (mta M) (mtn M) k i < 256
      by_cases e : i = mtn M
      · rw [e, va_up_self]; exact k5
      · rw [va_up_ne _ _ e, ← t1]; exact w3.2 i (by omega)
theorem in3 {y : Int32} (h : inB 3 y = false) : ¬ y = nI 0 ∧ ¬ y = nI 1 ∧ ¬ y = nI 2 := by
  refine ⟨fun q => ?_, fun q => ?_, fun q => ?_⟩ <;> (rw [q] at h; exact absurd h (by decide))
theorem in4 {y : Int32} (h : inB 4 y = false) : ¬ y = nI 0 ∧ ¬ y = nI 1 ∧ ¬ y = nI 2 ∧ ¬ y = nI 3 := by
  refine ⟨fun q => ?_, fun q => ?_, fun q => ?_, fun q => ?_⟩ <;> (rw [q] at h; exact absurd h (by decide))
theorem sim_job {W : Wp} {M : Md} (h : Rel W M) (x y : Int32) : Sim (wJob W x y) (mJob M x y) := by
  have h' := h
  obtain ⟨⟨w1, w2, w3, w4⟩, ⟨pr, hb⟩, _⟩ := h
  have o1 := w1.1
  unfold wJob mJob
  rw [pr.1]
  cases hj : inB (plnj (wpP W)) x with
  | false => exact Sim.no h' _ _
  | true =>
    obtain ⟨j, hj2, rfl⟩ := inB_of (by omega) hj
    obtain ⟨q1, q2, q3⟩ := pr.2.2.2.2.1 j hj2
    simp only [cond_true]
    rw [nI_clamp (by omega)]
    cases hy : inB 3 y with
    | false =>
      obtain ⟨y0, y1, y2⟩ := in3 hy
      rw [if_neg y0, if_neg y1, if_neg y2]
      exact Sim.no h' _ _
    | true =>
      obtain ⟨w, hw, rfl⟩ := inB_of (by decide) hy
      rw [nI_clamp (by omega)]
      have : w = 0 ∨ w = 1 ∨ w = 2 := by omega
      rcases this with rfl | rfl | rfl
      · rw [if_pos rfl]; exact ⟨congrArg nI q1.symm, h'⟩
      · rw [if_neg (by decide), if_pos rfl]; exact ⟨congrArg nI q2.symm, h'⟩
      · rw [if_neg (by decide), if_neg (by decide), if_pos rfl]; exact ⟨congrArg nI q3.symm, h'⟩
theorem sim_taker {W : Wp} {M : Md} (h : Rel W M) (x y : Int32) : Sim (wTaker W x y) (mTak M x y) := by
  have h' := h
  obtain ⟨⟨w1, w2, w3, w4⟩, ⟨pr, hb⟩, _⟩ := h
  have o1 := w1.2.1
  unfold wTaker mTak
  rw [pr.2.1]
  cases hj : inB (plnt (wpP W)) x with
  | false => exact Sim.no h' _ _
  | true =>
    obtain ⟨j, hj2, rfl⟩ := inB_of (by omega) hj
    obtain ⟨q1, q2, q3, q4⟩ := pr.2.2.2.2.2 j hj2
    simp only [cond_true]
    rw [nI_clamp (by omega)]
    cases hy : inB 4 y with
    | false =>
      obtain ⟨y0, y1, y2, y3⟩ := in4 hy
      rw [if_neg y0, if_neg y1, if_neg y2, if_neg y3]
      exact Sim.no h' _ _
    | true =>
      obtain ⟨w, hw, rfl⟩ := inB_of (by decide) hy
      rw [nI_clamp (by omega)]
      have : w = 0 ∨ w = 1 ∨ w = 2 ∨ w = 3 := by omega
      rcases this with rfl | rfl | rfl | rfl
      · rw [if_pos rfl]; exact ⟨congrArg nI q1.symm, h'⟩
      · rw [if_neg (by decide), if_pos rfl]; exact ⟨congrArg nI q2.symm, h'⟩
      · rw [if_neg (by decide), if_neg (by decide), if_pos rfl]; exact ⟨congrArg nI q3.symm, h'⟩
      · rw [if_neg (by decide), if_neg (by decide), if_neg (by decide), if_pos rfl]; exact ⟨congrArg nI q4.symm, h'⟩
theorem sim_sent {W : Wp} {M : Md} (h : Rel W M) (x y : Int32) : Sim (wSent W x y) (mSen M x y) := by
  have h' := h
  obtain ⟨⟨w1, w2, w3, w4⟩, ⟨pr, hb⟩, h3, h4, h5, h6, h7⟩ := h
  have o1 := w1.1
  unfold wSent mSen
  rw [pr.1]
  cases hj : inB (plnj (wpP W)) x with
  | false => exact Sim.no h' _ _
  | true =>
    obtain ⟨j, hj2, rfl⟩ := inB_of (by omega) hj
    simp only [cond_true]
    rw [nI_clamp (by omega)]
    unfold mChg
    by_cases h0 : y < 0
    · rw [if_pos h0, if_pos h0]; exact Sim.no h' _ _
    · rw [if_neg h0, if_neg h0]
      obtain ⟨k, hk, rfl⟩ := nI_of h0
      rw [nI_clamp hk]
      by_cases h1 : nI 60 ≤ nI k
      · rw [if_pos h1, if_pos (by rw [nI_leI (by decide) hk] at h1; exact (nI_ltI (by decide) hk).mpr (by omega))]
        exact Sim.no h' _ _
      · have h1' := h1
        rw [nI_leI (by decide) hk] at h1'
        rw [if_neg h1, if_neg (by rw [nI_ltI (by decide) hk]; omega)]
        have hq := PR_se pr o1 hj2 k
        refine ⟨congrArg nI (pr.2.2.2.2.1 j hj2).2.2.symm, ⟨plSe_ok w1 (show k < 60 by omega), w2, w3, w4⟩, ⟨hq, up_lt80 hb (show k < 100 by omega) _⟩, h3, h4, h5, h6, h7⟩
theorem PR_come {P : Pl} {f : Nat → Nat} (pr : PR P f) (h6 : plnt P ≤ 6) (hj6 : plnj P ≤ 6) {t : Nat} (ht : t < plnt P) (m : Nat) : PR (plow P, plsh P, plse P, pltk P, pltw P, pltf P, va_up (pltm P) t m, P.2.2.2.2.2.2.2) (va_up f (70 + t) m) := by
  obtain ⟨p0, p1, p2, p3, p4, p5⟩ := pr
  refine ⟨?_, ?_, ?_, ?_, fun i hi => ?_, fun i hi => ?_⟩
  · rw [va_up_ne _ _ (by omega)]; exact p0
  · rw [va_up_ne _ _ (by omega)]; exact p1
  · rw [va_up_ne _ _ (by omega)]; exact p2
  · rw [va_up_ne _ _ (by omega)]; exact p3
  · have hi : i < plnj P := hi
    rw [va_up_ne _ _ (by omega), va_up_ne _ _ (by omega), va_up_ne _ _ (by omega)]; exact p4 i hi
  · have hi : i < plnt P := hi
    rw [va_up_ne _ _ (by omega), va_up_ne _ _ (by omega), va_up_ne _ _ (by omega)]
    refine ⟨(p5 i hi).1, (p5 i hi).2.1, (p5 i hi).2.2.1, ?_⟩
    show va_up f (70 + t) m (70 + i) = va_up (pltm P) t m i
    by_cases e : i = t
    · rw [e, va_up_self, va_up_self]
    · rw [va_up_ne _ _ (by omega), va_up_ne _ _ e]; exact (p5 i hi).2.2.2
theorem sim_comes {W : Wp} {M : Md} (h : Rel W M) (x y : Int32) : Sim (wComes W x y) (mCom M x y) := by
  have h' := h
  obtain ⟨⟨w1, w2, w3, w4⟩, ⟨pr, hb⟩, h3, h4, h5, h6, h7⟩ := h
  have o1 := w1.1
  have o2 := w1.2.1
  unfold wComes mCom
  rw [pr.2.1]
  cases hj : inB (plnt (wpP W)) x with
  | false => exact Sim.no h' _ _
  | true =>
    obtain ⟨j, hj2, rfl⟩ := inB_of (by omega) hj
    simp only [cond_true]
    rw [nI_clamp (by omega)]
    unfold mChg
    by_cases h0 : y < 0
    · rw [if_pos h0, if_pos h0]; exact Sim.no h' _ _
    · rw [if_neg h0, if_neg h0]
      obtain ⟨k, hk, rfl⟩ := nI_of h0
      rw [nI_clamp hk]
      by_cases h1 : nI 100 ≤ nI k
      · rw [if_pos h1, if_pos (by rw [nI_leI (by decide) hk] at h1; exact (nI_ltI (by decide) hk).mpr (by omega))]
        exact Sim.no h' _ _
      · have h1' := h1
        rw [nI_leI (by decide) hk] at h1'
        rw [if_neg h1, if_neg (by rw [nI_ltI (by decide) hk]; omega)]
        have hq := PR_come pr o2 o1 hj2 k
        refine ⟨congrArg nI (pr.2.2.2.2.2 j hj2).2.2.2.symm, ⟨⟨w1.1, w1.2.1, w1.2.2.1, w1.2.2.2.1, w1.2.2.2.2.1, fun t ht => ?_⟩, w2, w3, w4⟩, ⟨hq, up_lt80 hb (show k < 100 by omega) _⟩, h3, h4, h5, h6, h7⟩
        have o6 := w1.2.2.2.2.2 t ht
        refine ⟨o6.1, o6.2.1, o6.2.2.1, ?_⟩
        show va_up (pltm (wpP W)) j k t < 100
        by_cases e : t = j
        · rw [e, va_up_self]; omega
        · rw [va_up_ne _ _ e]; exact o6.2.2.2
theorem PR_mac2 {P : Pl} {f : Nat → Nat} (pr : PR P f) (k s : Nat) : PR (plMac P k s) (va_up (va_up f 3 s) 2 k) := by
  obtain ⟨p0, p1, p2, p3, p4, p5⟩ := pr
  refine ⟨?_, ?_, ?_, ?_, fun j hj => ?_, fun t ht => ?_⟩
  · rw [va_up_ne _ _ (by decide), va_up_ne _ _ (by decide)]; exact p0
  · rw [va_up_ne _ _ (by decide), va_up_ne _ _ (by decide)]; exact p1
  · rw [va_up_self]; rfl
  · rw [va_up_ne _ _ (by decide), va_up_self]; rfl
  · rw [va_up_ne _ _ (by omega), va_up_ne _ _ (by omega), va_up_ne _ _ (by omega), va_up_ne _ _ (by omega), va_up_ne _ _ (by omega), va_up_ne _ _ (by omega)]; exact p4 j hj
  · rw [va_up_ne _ _ (by omega), va_up_ne _ _ (by omega), va_up_ne _ _ (by omega), va_up_ne _ _ (by omega), va_up_ne _ _ (by omega), va_up_ne _ _ (by omega), va_up_ne _ _ (by omega), va_up_ne _ _ (by omega)]; exact p5 t ht
theorem sim_machine {W : Wp} {M : Md} (h : Rel W M) (x y : Int32) : Sim (wMachine W x y) (mMac M x y) := by
  have h' := h
  obtain ⟨⟨w1, w2, w3, w4⟩, ⟨pr, hb⟩, h3, h4, h5, h6, h7⟩ := h
  unfold wMachine mMac
  cases hj : inB 6 x with
  | false => exact Sim.no h' _ _
  | true =>
    obtain ⟨j, hj2, rfl⟩ := inB_of (by decide) hj
    simp only [cond_true]
    rw [nI_clamp (by omega)]
    by_cases h0 : y < 0
    · rw [if_pos h0, if_pos h0]; exact Sim.no h' _ _
    · rw [if_neg h0, if_neg h0]
      by_cases h1 : nI 9 < y
      · rw [if_pos h1, if_pos h1]; exact Sim.no h' _ _
      · rw [if_neg h1, if_neg h1]
        obtain ⟨k, hk, rfl⟩ := nI_of h0
        rw [nI_clamp hk]
        rw [nI_ltI (by decide) hk] at h1
        refine ⟨?_, ⟨plMac_ok w1 hj2 (by omega), w2, w3, w4⟩, ⟨PR_mac2 pr j k, up_lt80 (up_lt80 hb (by omega) 3) (by omega) 2⟩, h3, h4, h5, h6, h7⟩
        show nI (10 * plkd (wpP W) + plsp (wpP W)) = nI (10 * mno M 2 + mno M 3)
        rw [pr.2.2.1, pr.2.2.2.1]
theorem PR_cg {P : Pl} {f g : Nat → Nat} (h1 : plnj P ≤ 6) (h2 : plnt P ≤ 6) (e : ∀ j, j < 80 → f j = g j) (pr : PR P f) : PR P g := by
  obtain ⟨p0, p1, p2, p3, p4, p5⟩ := pr
  refine ⟨(e _ (by decide)).symm.trans p0, (e _ (by decide)).symm.trans p1, (e _ (by decide)).symm.trans p2, (e _ (by decide)).symm.trans p3, fun j hj => ?_, fun t ht => ?_⟩
  · rw [← e _ (by omega), ← e _ (by omega), ← e _ (by omega)]; exact p4 j hj
  · rw [← e _ (by omega), ← e _ (by omega), ← e _ (by omega), ← e _ (by omega)]; exact p5 t ht
theorem PR_cp {P Q : Pl} {f : Nat → Nat} (h1 : plnj Q ≤ 6) (h2 : plnt Q ≤ 6) (pr : PR Q f) : PR (plCp P Q) f := by
  obtain ⟨p0, p1, p2, p3, p4, p5⟩ := pr
  refine ⟨p0, p1, p2, p3, fun j hj => ?_, fun t ht => ?_⟩
  · have hj : j < plnj Q := hj
    obtain ⟨a, b, c⟩ := p4 j hj
    exact ⟨a.trans (cpy6 (by omega)).symm, b.trans (cpy6 (by omega)).symm, c.trans (cpy6 (by omega)).symm⟩
  · have ht : t < plnt Q := ht
    obtain ⟨a, b, c, d⟩ := p5 t ht
    exact ⟨a.trans (cpy6 (by omega)).symm, b.trans (cpy6 (by omega)).symm, c.trans (cpy6 (by omega)).symm, d.trans (cpy6 (by omega)).symm⟩
theorem sim_image {W : Wp} {M : Md} (h : Rel W M) : Sim (wImage W) (mImage M) := by
  obtain ⟨⟨w1, w2, w3, w4⟩, ⟨pr, hb⟩, h3, h4, h5, h6, h7⟩ := h
  have e : ∀ j, j < 80 → mno M j = (if j < 80 then mno M j else mth M j) := fun j hj => (if_pos hj).symm
  refine ⟨congrArg nI pr.1.symm, ⟨w1, fun _ => plCp_ok w1, w3, w4⟩, ⟨pr, hb⟩, ⟨rfl, fun _ => PR_cg w1.1 w1.2.1 e (PR_cp w1.1 w1.2.1 pr), fun j hj => ?_⟩, h4, h5, h6, h7⟩
  show (if j < 80 then mno M j else mth M j) < 100
  rw [if_pos hj]
  exact hb j hj
theorem sim_on {W : Wp} {M : Md} (h : Rel W M) : Sim (wOn W) (mOn M) := by
  have h' := h
  obtain ⟨⟨w1, w2, w3, w4⟩, ⟨pr, hb⟩, ⟨i1, i2, i3⟩, h4, h5, h6, h7⟩ := h
  unfold wOn mOn
  rw [← i1]
  cases hI : wpI W with
  | false => exact Sim.no h' _ _
  | true =>
    have wk := w2 hI
    have pk := i2 hI
    have e : ∀ j, j < 80 → mth M j = (if j < 80 then mth M j else mno M j) := fun j hj => (if_pos hj).symm
    refine ⟨congrArg nI pk.1.symm, ⟨plCp_ok wk, w2, w3, w4⟩, ⟨PR_cg (P := plCp (wpP W) (wpK W)) wk.1 wk.2.1 e (PR_cp wk.1 wk.2.1 pk), fun j hj => ?_⟩, ⟨hI, i2, i3⟩, h4, h5, h6, h7⟩
    show (if j < 80 then mth M j else mno M j) < 100
    rw [if_pos hj]
    exact i3 j hj
theorem sim_row {W : Wp} {M : Md} (h : Rel W M) (x : Int32) : Sim (wRow W x) (qRow M x) := by
  have h' := h
  obtain ⟨⟨w1, w2, w3, w4⟩, h2, h3, h4, ⟨r1, r2, r3⟩, h6, h7⟩ := h
  unfold wRow qRow
  rw [r1, r2, r3]
  by_cases h0 : x < 0
  · rw [if_pos h0, if_pos h0]; exact Sim.no h' _ _
  · rw [if_neg h0, if_neg h0]
    by_cases hc : nI 100 ≤ x ∨ 20 ≤ mln M
    · rw [if_pos hc, if_pos hc]; exact Sim.no h' _ _
    · rw [if_neg hc, if_neg hc]
      obtain ⟨k, hk, rfl⟩ := nI_of h0
      rw [nI_clamp hk]
      have k5 : k < 100 := by
        by_cases q : k < 100
        · exact q
        · exact absurd (Or.inl ((nI_leI (by decide) hk).mpr (by omega))) hc
      have n8 : mln M < 20 := by
        by_cases q : mln M < 20
        · exact q
        · exact absurd (Or.inr (by omega)) hc
      refine ⟨rfl, ⟨w1, w2, w3, ⟨n8, fun i hi => ?_⟩⟩, h2, h3, h4, ⟨rfl, rfl, rfl⟩, h6, h7⟩
      have hi : i < mln M + 1 := hi
      show va_up (mli M) (mln M) k i < 100
      by_cases e : i = mln M
      · rw [e, va_up_self]; exact k5
      · rw [va_up_ne _ _ e, ← r1]; exact w4.2 i (by omega)
theorem sim_count {W : Wp} {M : Md} (h : Rel W M) (x : Int32) : wCount W x = qCount M (wpP W) x := by
  obtain ⟨⟨w1, w2, w3, w4⟩, h2, h3, h4, ⟨r1, r2, r3⟩, h6, h7⟩ := h
  unfold wCount qCount wRefd rfI
  rw [r2, h4.2, h6]
theorem sim_parts {W : Wp} {M : Md} (h : Rel W M) : Sim (wParts W) (nI (ltS (mli M) (mln M)).2, M) := by
  have h' := h
  obtain ⟨⟨w1, w2, w3, w4⟩, h2, h3, h4, ⟨r1, r2, r3⟩, h6, h7⟩ := h
  refine ⟨?_, ⟨w1, w2, w3, w4⟩, h2, h3, h4, ⟨r1, r2, r3⟩, h6, h7⟩
  show nI (fpS (rwnu (wpR W)) (rwlo (wpR W)) (rwn (wpR W))).2 = nI (ltS (mli M) (mln M)).2
  rw [(fp_lt _ _ _).1, r1, r2]
theorem sim_lacks {W : Wp} {M : Md} (h : Rel W M) (x : Int32) : Sim (wLacks W x) (qLacks M (wpP W) x) := by
  have h' := h
  obtain ⟨⟨w1, w2, w3, w4⟩, h2, h3, h4, ⟨r1, r2, r3⟩, h6, h7⟩ := h
  unfold wLacks qLacks
  rw [r1, r2]
  cases inB (plnj (wpP W)) x with
  | false => exact Sim.no h' _ _
  | true => exact ⟨rfl, h'⟩
theorem sim_laps {W : Wp} {M : Md} (h : Rel W M) (x : Int32) : Sim (wLaps W x) (qLaps M x) := by
  have h' := h
  obtain ⟨⟨w1, w2, w3, w4⟩, h2, h3, h4, ⟨r1, r2, r3⟩, h6, h7⟩ := h
  have n20 := w4.1
  rw [r2] at n20
  unfold wLaps qLaps
  by_cases h0 : x < nI 2
  · rw [if_pos h0, if_pos h0]; exact Sim.no h' _ _
  · rw [if_neg h0, if_neg h0]
    by_cases h1 : nI 9 < x
    · rw [if_pos h1, if_pos h1]; exact Sim.no h' _ _
    · rw [if_neg h1, if_neg h1]
      refine ⟨?_, ⟨w1, w2, w3, w4⟩, h2, h3, h4, ⟨r1, r2, r3⟩, h6, h7⟩
      dsimp only
      rw [r1, r2]
      have e := (rnM_eq (fp := fun v => fsP (mli M) v (mln M) 0) (gp := fpA (mli M) (mln M) (rwfp (wpR W)) (mln M)) (n := mln M) (by omega) (fun v hv => by
        rw [fpA_fs (mli M) (mln M) (rwfp (wpR W)) hv (mln M) (Nat.le_refl _), Nat.sub_self]) (fun v p hv hp => by
        have := fsP_lt _ _ _ _ _ hp
        omega) 100 (Nat.le_refl _)).1
      rw [e]
theorem sim_two {W : Wp} {M : Md} (h : Rel W M) (x y : Int32) : Sim (wTwo W x y) (qTwo M (wpP W) x y) := by
  have h' := h
  obtain ⟨⟨w1, w2, w3, w4⟩, h2, h3, h4, ⟨r1, r2, r3⟩, h6, h7⟩ := h
  unfold wTwo qTwo shOf
  rw [show twoJ W x y = tJ (wpP W) x y from rfl, r1, r2, r3]
  cases tJ (wpP W) x y with
  | false => exact Sim.no h' _ _
  | true => exact ⟨rfl, ⟨w1, w2, w3, w4⟩, h2, h3, h4, ⟨r1, r2, rfl⟩, h6, h7⟩
theorem sim_three {W : Wp} {M : Md} (h : Rel W M) (x y u : Int32) : Sim (wThree W x y u) (qThree M (wpP W) x y u) := by
  have h' := h
  obtain ⟨⟨w1, w2, w3, w4⟩, h2, h3, h4, ⟨r1, r2, r3⟩, h6, h7⟩ := h
  unfold wThree qThree shOf
  rw [show twoJ W x y = tJ (wpP W) x y from rfl, show twoJ W x u = tJ (wpP W) x u from rfl, show twoJ W y u = tJ (wpP W) y u from rfl, r1, r2, r3]
  cases (tJ (wpP W) x y && (tJ (wpP W) x u && tJ (wpP W) y u)) with
  | false => exact Sim.no h' _ _
  | true => exact ⟨rfl, ⟨w1, w2, w3, w4⟩, h2, h3, h4, ⟨r1, r2, rfl⟩, h6, h7⟩
