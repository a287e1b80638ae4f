/-! ===== the relation: what is asked of a day ===== -/
def mA (M : Md) : MC := zAll (mno M) M.2.2.1
theorem sim_out {W : Wp} {M : Md} (h : Rel W M) (C : MC) (x y : Int32) : Sim (wOut W x y) (qOut (dAll W) M (sC M C) x y) := by
  unfold wOut qOut
  split
  · exact Sim.no h _ _
  · split
    · exact ⟨rfl, h⟩
    · split
      · exact ⟨rfl, h⟩
      · exact Sim.no h _ _
theorem sim_outMany {W : Wp} {M : Md} (h : Rel W M) (C : MC) : Sim (wOutMany W) (qMany (dAll W) (sC M C)) := ⟨rfl, h⟩
theorem sim_lies {W : Wp} {M : Md} (h : Rel W M) (C : MC) (x y : Int32) : Sim (wLies W x y) (qLies (dTo W x.toNatClampNeg) M (sC M C) x y) := by
  unfold wLies qLies
  split
  · exact Sim.no h _ _
  · split
    · exact Sim.no h _ _
    · split
      · exact ⟨rfl, h⟩
      · exact ⟨rfl, h⟩
theorem sim_held {W : Wp} {M : Md} (h : Rel W M) (C : MC) (x y : Int32) : Sim (wHeld W x y) (qHeld (wpP W) (dAll W) M (sC M C) x y) := by
  unfold wHeld qHeld
  cases inB 4 x with
  | false => exact Sim.no h _ _
  | true =>
    simp only [cond_true]
    split
    · exact ⟨rfl, h⟩
    · split
      · exact ⟨rfl, h⟩
      · exact Sim.no h _ _
theorem sim_who {W : Wp} {M : Md} (h : Rel W M) (C : MC) (x : Int32) : Sim (wWho W x) (qWho (wpP W) (dAll W) M (sC M C) x) := by
  unfold wWho qWho
  cases isShI (wpP W) x with
  | false => exact Sim.no h _ _
  | true => exact ⟨rfl, h⟩
theorem sim_missing {W : Wp} {M : Md} (h : Rel W M) (C : MC) (x : Int32) : Sim (wMissing W x) (qMiss (wpP W) (dAll W) M (sC M C) x) := by
  unfold wMissing qMiss
  cases inB 4 x with
  | false => exact Sim.no h _ _
  | true => exact ⟨rfl, h⟩
theorem sim_ask {W : Wp} {M : Md} (h : Rel W M) (C : MC) (x : Int32) : Sim (wAsk W x) (qAsk (wpP W) (dAll W) M (sC M C) x) := by
  unfold wAsk qAsk
  cases inB 4 x with
  | false => exact Sim.no h _ _
  | true => exact ⟨rfl, h⟩
theorem sim_ready {W : Wp} {M : Md} (h : Rel W M) (C : MC) (x : Int32) : Sim (wReady W x) (qReady (wpP W) (dAll W) M (sC M C) x) := by
  unfold wReady qReady
  cases inB 4 x with
  | false => exact Sim.no h _ _
  | true => exact ⟨rfl, h⟩
theorem sim_waits {W : Wp} {M : Md} (h : Rel W M) (C : MC) (x y u : Int32) : Sim (wWaits W x y u) (qWaits (wpP W) (dAll W) M (sC M C) x y u) := by
  unfold wWaits qWaits
  cases inB 4 x with
  | false => exact Sim.no h _ _
  | true =>
    simp only [cond_true]
    split
    · exact Sim.no h _ _
    · split
      · exact Sim.no h _ _
      · exact ⟨rfl, h⟩
theorem sim_vain {W : Wp} {M : Md} (h : Rel W M) (C : MC) (x y u : Int32) : Sim (wVain W x y u) (qVain (wpP W) (dAll W) M (sC M C) x y u) := by
  unfold wVain qVain
  cases inB 4 x with
  | false => exact Sim.no h _ _
  | true =>
    simp only [cond_true]
    split
    · exact Sim.no h _ _
    · split
      · exact Sim.no h _ _
      · exact ⟨rfl, h⟩
theorem sim_judge {W : Wp} {M : Md} (h : Rel W M) (C : MC) : Sim (wJudge W) (qJudge (dAll W) M (sC M C)) := by
  have h' := h
  obtain ⟨⟨w1, w2, w3, w4⟩, h2, h3, h4, ⟨r1, r2, r3⟩, h6, h7⟩ := h
  refine ⟨?_, ⟨w1, w2, w3, ⟨Nat.zero_le _, fun i hi => absurd hi (Nat.not_lt_zero _)⟩⟩, h2, h3, h4, ⟨r1, rfl, r3⟩, h6, h7⟩
  show oI (jdL (dAll W) (rwnu (wpR W)) (rwn (wpR W)) 0) = oI (jdL (dAll W) (mli M) (mln M) 0)
  rw [r1, r2]
/-! how mixed: by the reference's numbers alone -/
def cZ : MC := (fun _ => 0, fun _ => 0, fun _ => 0, 0, fun _ => 0, 0, fun _ => 0, fun _ => 0)
def mxF' (f : Nat → Nat) : Nat := mxS (cou (zRun f cZ 100).1) (cos (zRun f cZ 100).1 - 1)
theorem mxP_f {Q : Pl} {f : Nat → Nat} (pr : PR Q f) (ok : PlOk Q) : mxP Q = mxF' f := by
  have zr := (zRun_R pr ok dyZ cZ 100 (Nat.le_refl _)).2.1
  unfold mxP mxF'
  exact (mx_cr (P := Q) zr).symm
theorem mx_f {Q : Pl} {f : Nat → Nat} (pr : PR Q f) (ok : PlOk Q) (S : Pr) : prmx (pDay Q S) = mxF' f := (mxP_eq ok pr S).trans (mxP_f pr ok)
theorem sim_mixed {W : Wp} {M : Md} (h : Rel W M) (C : MC) : Sim (wMixed W) (nI (mxP (wpP W)), sC M C) := by
  refine ⟨?_, h⟩
  show nI (prmx (pDay (wpP W) (wpS W))) = nI (mxP (wpP W))
  rw [mxP_eq h.1.1 h.2.1.1]
def leR (g : Nat → Nat) (k : Nat) (z : Nat × Option Nat) : Prop := z.1 = (amn g k).1 ∧ (match z.2 with | none => k = 0 ∧ (amn g k).2 = 1000 | some l => (amn g k).2 = l)
theorem leR_0 (g : Nat → Nat) : leR g 0 (0, none) := ⟨rfl, rfl, rfl⟩
theorem leR_s {g : Nat → Nat} {k : Nat} {z : Nat × Option Nat} (h : leR g k z) (hg : g k ≤ 100) : leR g (k + 1) (bif ltO (g k) z.2 then (k, some (g k)) else z) := by
  obtain ⟨h1, h2⟩ := h
  unfold leR
  rw [amn]
  obtain ⟨b, o⟩ := z
  cases o with
  | none =>
    have h2 : k = 0 ∧ (amn g k).2 = 1000 := h2
    rw [if_pos (by omega)]
    exact ⟨rfl, rfl⟩
  | some l =>
    have h2 : (amn g k).2 = l := h2
    rw [h2]
    by_cases hl : g k < l
    · rw [if_pos hl, show ltO (g k) (some l) = true from decide_eq_true hl]
      exact ⟨rfl, rfl⟩
    · rw [if_neg hl, show ltO (g k) (some l) = false from decide_eq_false hl]
      exact ⟨h1, h2⟩
theorem sim_byKind {W : Wp} {M : Md} (h : Rel W M) (C : MC) : Sim (wByKind W) (nI (amn (bkG (wpP W)) 6).1, sC M C) := by
  have ok := h.1.1
  have pr := h.2.1.1
  have key : ∀ k, k ≤ 6 → leR (bkG (wpP W)) k (bkS W k).2.2 ∧ PlOk (bkS W k).1 ∧ plsp (bkS W k).1 = plsp (wpP W) ∧ ∃ v, PR (bkS W k).1 (va_up (mno M) 2 v) := by
    intro k
    induction k with
    | zero => exact fun _ => ⟨leR_0 _, plCp_ok ok, rfl, mno M 2, by rw [up_id]; exact PR_cp ok.1 ok.2.1 pr⟩
    | succ k ih =>
      intro hk
      obtain ⟨i1, i2, i3, v, i4⟩ := ih (by omega)
      have ok2 : PlOk (plMac (bkS W k).1 k (plsp (wpP W))) := plMac_ok i2 (by omega) ok.2.2.2.1
      have pr2 : PR (plMac (bkS W k).1 k (plsp (wpP W))) (va_up (mno M) 2 k) := by
        have := PR_mac i4 k
        rw [up_up, i3] at this
        exact this
      have em : prmx (pDay (plMac (bkS W k).1 k (plsp (wpP W))) (bkS W k).2.1) = bkG (wpP W) k := by
        rw [mx_f pr2 ok2]
        exact (mxP_f (PR_mac pr k) (plMac_ok ok (by omega) ok.2.2.2.1)).symm
      have hg : bkG (wpP W) k ≤ 100 := mxP_le (plMac_ok ok (by omega) ok.2.2.2.1) (PR_mac pr k)
      refine ⟨?_, ok2, rfl, k, pr2⟩
      have := leR_s i1 hg
      show leR (bkG (wpP W)) (k + 1) (bif ltO (prmx (pDay (plMac (bkS W k).1 k (plsp (wpP W))) (bkS W k).2.1)) (bkS W k).2.2.2 then (k, some (prmx (pDay (plMac (bkS W k).1 k (plsp (wpP W))) (bkS W k).2.1))) else ((bkS W k).2.2.1, (bkS W k).2.2.2))
      rw [em]
      exact this
  refine ⟨congrArg nI (key 6 (Nat.le_refl _)).1.1, h⟩
theorem sim_send {W : Wp} {M : Md} (h : Rel W M) (x y : Int32) : Sim (wSend W x y) (qSend M (wpP W) x y) := by
  have ok := h.1.1
  have pr := h.2.1.1
  have o1 := ok.1
  unfold wSend qSend
  cases hj : inB (plnj (wpP W)) x with
  | false => exact Sim.no h _ _
  | true =>
    obtain ⟨j, hj2, rfl⟩ := inB_of (by omega) hj
    simp only [cond_true]
    rw [nI_clamp (by omega)]
    have key : ∀ k, k ≤ 60 → leR (sdG (wpP W) j) k (sdS W j k).2.2 ∧ PlOk (sdS W j k).1 ∧ plnj (sdS W j k).1 = plnj (wpP W) ∧ ∃ v, PR (sdS W j k).1 (va_up (mno M) (30 + j) v) := by
      intro k
      induction k with
      | zero => exact fun _ => ⟨leR_0 _, plCp_ok ok, rfl, mno M (30 + j), by rw [up_id]; exact PR_cp ok.1 ok.2.1 pr⟩
      | succ k ih =>
        intro hk
        obtain ⟨i1, i2, i3, v, i4⟩ := ih (by omega)
        have ok2 : PlOk (plSe (sdS W j k).1 j k) := plSe_ok i2 (by omega)
        have pr2 : PR (plSe (sdS W j k).1 j k) (va_up (mno M) (30 + j) k) := by
          have := PR_se i4 (by omega) (show j < plnj (sdS W j k).1 by omega) k
          rw [up_up] at this
          exact this
        have em : prmx (pDay (plSe (sdS W j k).1 j k) (sdS W j k).2.1) = sdG (wpP W) j k := by
          rw [mx_f pr2 ok2]
          exact (mxP_f (PR_se pr o1 hj2 k) (plSe_ok ok (by omega))).symm
        have hg : sdG (wpP W) j k ≤ 100 := mxP_le (plSe_ok ok (by omega)) (PR_se pr o1 hj2 k)
        refine ⟨?_, ok2, i3, k, pr2⟩
        have := leR_s i1 hg
        show leR (sdG (wpP W) j) (k + 1) (bif ltO (prmx (pDay (plSe (sdS W j k).1 j k) (sdS W j k).2.1)) (sdS W j k).2.2.2 then (k, some (prmx (pDay (plSe (sdS W j k).1 j k) (sdS W j k).2.1))) else ((sdS W j k).2.2.1, (sdS W j k).2.2.2))
        rw [em]
        exact this
    have hk := (key 60 (Nat.le_refl _)).1
    clear key
    unfold leR at hk
    generalize amn (sdG (wpP W) j) 60 = A at hk ⊢
    generalize sdS W j 60 = B at hk ⊢
    obtain ⟨k1, k2⟩ := hk
    by_cases y0 : y = nI 0
    · rw [if_pos y0, if_pos y0]
      exact ⟨congrArg nI k1, h⟩
    · rw [if_neg y0, if_neg y0]
      by_cases y1 : y = nI 1
      · rw [if_pos y1, if_pos y1]
        refine ⟨?_, h⟩
        show leI B.2.2.2 = nI A.2
        cases ho : B.2.2.2 with
        | none => rw [ho] at k2; exact absurd k2.1 (by decide)
        | some l => rw [ho] at k2; rw [show A.2 = l from k2]; rfl
      · rw [if_neg y1, if_neg y1]
        exact Sim.no h _ _
theorem sim_lots {W : Wp} {M : Md} (h : Rel W M) (x z : Int32) : Sim (wLots W x z) (qLots M (wpP W) x z) := by
  have ok := h.1.1
  have pr := h.2.1.1
  have hb := h.2.1.2
  have o1 := ok.1
  unfold wLots qLots
  by_cases h0 : x < nI 1
  · rw [if_pos h0, if_pos h0]; exact Sim.no h _ _
  · rw [if_neg h0, if_neg h0]
    by_cases h1 : nI 20 < x
    · rw [if_pos h1, if_pos h1]; exact Sim.no h _ _
    · rw [if_neg h1, if_neg h1]
      have key : ∀ d, lOk M (wpP W) (ltM M (wpP W) z d).1 (ltD W z d).1 ∧ (ltD W z d).2.2.1 = (ltM M (wpP W) z d).2.2.1 ∧ (ltD W z d).2.2.2 = (ltM M (wpP W) z d).2.2.2.1 := by
        intro d
        induction d with
        | zero => exact ⟨⟨PR_cp ok.1 ok.2.1 pr, plCp_ok ok, rfl, hb, fun _ _ => rfl⟩, rfl, rfl⟩
        | succ d ih =>
          obtain ⟨i1, i2, i3⟩ := ih
          have i4 := ltM_ok pr ok hb z d
          obtain ⟨g1, g2⟩ := ltG_ok o1 i1 (ltM M (wpP W) z d).2.2.1 (plnj (wpP W)) (Nat.le_refl _)
          obtain ⟨g3, g4⟩ := ltG_ok o1 i4 (ltM M (wpP W) z d).2.2.1 (plnj (wpP W)) (Nat.le_refl _)
          rw [ltD, ltM, i2, i3]
          refine ⟨g1, g2.symm, ?_⟩
          show (ltM M (wpP W) z d).2.2.2.1 + prmx (pDay (ltJ (ltD W z d).1 (ltM M (wpP W) z d).2.2.1 (plnj (wpP W))).1 (ltD W z d).2.1) = (ltM M (wpP W) z d).2.2.2.1 + mxP (ltJ (ltM M (wpP W) z d).2.2.2.2 (ltM M (wpP W) z d).2.2.1 (plnj (wpP W))).1
          rw [mx_f g1.1 g1.2.1, mxP_f g3.1 g3.2.1]
      exact ⟨congrArg nI (key _).2.2, h⟩
/-! seen: forth and back -/
theorem sn_eq (g : Nat → Bool) (F : Nat → Nat × Option Nat) (h0 : F 0 = (0, none)) (hs : ∀ m, F (m + 1) = bif g m then ((F m).1 + 1, (match (F m).2 with | none => some m | some x => some x)) else F m) : ∀ s t, s + t = 100 → F 100 = ((F t).1 + (snR g s).1, (match (F t).2 with | none => (snR g s).2 | some x => some x))
  | 0, t, h => by
    have e : t = 100 := by omega
    subst e
    show F 100 = ((F 100).1 + 0, match (F 100).2 with | none => none | some x => some x)
    cases hq : (F 100).2 with
    | none => exact Prod.ext rfl hq
    | some x => exact Prod.ext rfl hq
  | s + 1, t, h => by
    have ih := sn_eq g F h0 hs s (t + 1) (by omega)
    rw [ih, hs t, snR, show 99 - s = t by omega]
    cases g t with
    | false => rfl
    | true =>
      refine Prod.ext ?_ ?_
      · show (F t).1 + 1 + (snR g s).1 = (F t).1 + ((snR g s).1 + 1)
        omega
      · show (match (match (F t).2 with | none => some t | some x => some x) with | none => (snR g s).2 | some x => some x) = (match (F t).2 with | none => some t | some x => some x)
        cases (F t).2 <;> rfl
theorem sim_seen {W : Wp} {M : Md} (h : Rel W M) (y : Int32) : Sim (wSeen W y) (qSeen M (wpP W) (wpY W) y) := by
  obtain ⟨r1, r2, r3⟩ := h.2.2.2.2.1
  have e : snS W 100 = snR (snG M (wpP W) (wpY W)) 100 := by
    have k := sn_eq (snG M (wpP W) (wpY W)) (snS W) rfl (fun m => by
      rw [snS, show lkA (wpR W) (dyty (dRun (wpP W) (wpY W) (m + 1))) = snG M (wpP W) (wpY W) m by unfold lkA snG lkB; rw [r1, r2]]
      generalize snS W m = q
      obtain ⟨a, b⟩ := q
      cases snG M (wpP W) (wpY W) m <;> cases b <;> rfl) 100 0 rfl
    rw [k]
    show (0 + (snR (snG M (wpP W) (wpY W)) 100).1, (snR (snG M (wpP W) (wpY W)) 100).2) = _
    rw [Nat.zero_add]
  unfold wSeen qSeen
  rw [e]
  split
  · exact ⟨rfl, h⟩
  · split
    · exact ⟨rfl, h⟩
    · exact Sim.no h _ _
