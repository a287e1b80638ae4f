/-! ===== the reference: byKind send ===== -/
def mxP (P : Pl) : Nat := mxS (dyos (dRun P dyZ 100)) (dyn (dRun P dyZ 100) - 1)
theorem mxP_eq {P : Pl} (ok : PlOk P) {f : Nat → Nat} (pr : PR P f) (S : Pr) : prmx (pDay P S) = mxP P := mix_eq ok pr dyZ S
theorem mxP_le {P : Pl} (ok : PlOk P) {f : Nat → Nat} (pr : PR P f) : mxP P ≤ 100 := by
  rw [← mxP_eq ok pr prZ]
  exact pDay_mx ok prZ
def zAll (f : Nat → Nat) (C : MC) : MC := (zRun f C 100).1
theorem pm_mmx (M : Md) (P : Pl) (pr : PR P (mno M)) (ok : PlOk P) (h3 : ∀ j, j < 80 → mno M j < 100) : PM mu_X7_mixed 4 0 0 [.ref 0] (mdB M) (eqP (some (.int (nI (mxP P)))) (mdB (sC M (zAll (mno M) M.2.2.1)))) := by
  have zr := zRun_R pr ok dyZ M.2.2.1 100 (Nat.le_refl _)
  have cG : PM mu_X7_goTo 3 0 0 [.ref 0, .int (nI 99)] (mdB M) (eqP none (mdB (sC M (zAll (mno M) M.2.2.1)))) := pm_mgoTo M P pr ok (fun j hj => by have := h3 j hj; omega) 99 (by decide)
  exact pm_mmixed M (zAll (mno M) M.2.2.1) P (dRun P dyZ 100) pr ok (dRun_ok ok dyZ 100 (Nat.le_refl _)) (dRun_DF ok dyZ 100 (Nat.le_refl _)) zr.2.1 zr.2.2.2.2 h3 cG
def amn (g : Nat → Nat) : Nat → Nat × Nat
  | 0 => (0, 1000)
  | k + 1 => if g k < (amn g k).2 then (k, g k) else amn g k
theorem up_up (f : Nat → Nat) (i a b : Nat) : va_up (va_up f i a) i b = va_up f i b := by
  funext j
  by_cases e : j = i
  · rw [e, va_up_self, va_up_self]
  · rw [va_up_ne _ _ e, va_up_ne _ _ e, va_up_ne _ _ e]
theorem up_id (f : Nat → Nat) (i : Nat) : va_up f i (f i) = f := by
  funext j
  by_cases e : j = i
  · rw [e, va_up_self]
  · rw [va_up_ne _ _ e]
theorem PR_mac {P : Pl} {f : Nat → Nat} (pr : PR P f) (k : Nat) : PR (plMac P k (plsp P)) (va_up f 2 k) := by
  obtain ⟨p0, p1, p2, p3, p4, p5⟩ := pr
  refine ⟨?_, ?_, ?_, ?_, fun j hj => ?_, fun t ht => ?_⟩
  · rw [va_up_ne _ _ (by decide)]; exact p0
  · rw [va_up_ne _ _ (by decide)]; exact p1
  · rw [va_up_self]; rfl
  · rw [va_up_ne _ _ (by decide)]; exact p3
  · rw [va_up_ne _ _ (by omega), va_up_ne _ _ (by omega), va_up_ne _ _ (by omega)]; exact p4 j hj
  · rw [va_up_ne _ _ (by omega), va_up_ne _ _ (by omega), va_up_ne _ _ (by omega), va_up_ne _ _ (by omega)]; exact p5 t ht
theorem PR_se {P : Pl} {f : Nat → Nat} (pr : PR P f) (h6 : plnj P ≤ 6) {j : Nat} (hj : j < plnj P) (m : Nat) : PR (plSe P j m) (va_up f (30 + j) m) := by
  obtain ⟨p0, p1, p2, p3, p4, p5⟩ := pr
  refine ⟨?_, ?_, ?_, ?_, fun i hi => ?_, fun t ht => ?_⟩
  · rw [va_up_ne _ _ (by omega)]; exact p0
  · rw [va_up_ne _ _ (by omega)]; exact p1
  · rw [va_up_ne _ _ (by omega)]; exact p2
  · rw [va_up_ne _ _ (by omega)]; exact p3
  · have hi : i < plnj P := hi
    rw [va_up_ne _ _ (by omega), va_up_ne _ _ (by omega)]
    refine ⟨(p4 i hi).1, (p4 i hi).2.1, ?_⟩
    show va_up f (30 + j) m (30 + i) = va_up (plse P) j m i
    by_cases e : i = j
    · rw [e, va_up_self, va_up_self]
    · rw [va_up_ne _ _ (by omega), va_up_ne _ _ e]; exact (p4 i hi).2.2
  · rw [va_up_ne _ _ (by omega), va_up_ne _ _ (by omega), va_up_ne _ _ (by omega), va_up_ne _ _ (by omega)]; exact p5 t ht
theorem up_lt80 {f : Nat → Nat} (h : ∀ j, j < 80 → f j < 100) {v : Nat} (hv : v < 100) (i : Nat) : ∀ j, j < 80 → va_up f i v j < 100 := by
  intro j hj
  by_cases e : j = i
  · rw [e, va_up_self]; exact hv
  · rw [va_up_ne _ _ e]; exact h j hj
theorem mdNwC (M : Md) (C : MC) (f : Nat → Nat) (k v : Nat) : (mdB (sC (mNw M f) C)).set 2 (.inl (0, 80, upd (fun j => nI (f j)) k (nI v))) = mdB (sC (mNw M (va_up f k v)) C) := by
  rw [upd_nI]; rfl
def bkC (M : Md) : Nat → MC
  | 0 => M.2.2.1
  | k + 1 => zAll (va_up (mno M) 2 k) (bkC M k)
def bkG (P : Pl) (k : Nat) : Nat := mxP (plMac P k (plsp P))
theorem pm_mbyKind (M : Md) (P : Pl) (pr : PR P (mno M)) (ok : PlOk P) (h3 : ∀ j, j < 80 → mno M j < 100) : PM mu_X7_byKind 5 0 0 [.ref 0] (mdB M) (eqP (some (.int (nI (amn (bkG P) 6).1))) (mdB (sC M (bkC M 6)))) := by
  have b2 := h3 2 (by decide)
  have hle : ∀ k, k < 6 → bkG P k ≤ 100 := fun k hk => mxP_le (plMac_ok ok hk ok.2.2.2.1) (PR_mac pr k)
  have hal : ∀ k, k ≤ 6 → (amn (bkG P) k).1 ≤ 6 ∧ (amn (bkG P) k).2 ≤ 1000 := by
    intro k
    induction k with
    | zero => intro _; exact ⟨Nat.zero_le _, Nat.le_refl 1000⟩
    | succ k ih =>
      intro hk
      have := ih (by omega)
      have := hle k (by omega)
      rw [amn]
      split
      · show k ≤ 6 ∧ bkG P k ≤ 1000
        omega
      · exact ih (by omega)
  refine PM.start (Or.inl (by decide +kernel)) rfl rfl rfl ?_
  intro X hX hR hx hin
  have loop : ∀ n k v : Nat, k + n = 6 → v < 100 → ∀ Z, amn (bkG P) k = Z → PW X 16 [some (.ref 0), some (.int (nI (mno M 2))), some (.int (nI Z.1)), some (.int (nI Z.2)), some (.int (nI k)), none] [] (mdB (sC (mNw M (va_up (mno M) 2 v)) (bkC M k))) 0 0 := by
    intro n
    induction n with
    | zero =>
      intro k v h1 hv Z hZ
      have e : k = 6 := by omega
      subst e
      have eh := mdNwC M (bkC M 6) (va_up (mno M) 2 v) 2 (mno M 2)
      rw [up_up, up_id] at eh
      rw [hZ] at hR
      generalize bkC M 6 = C at eh hR ⊢
      refine PW.iload hX dX7_byKind_16 rfl ?_
      refine PW.bipush (v := nI 6) hX dX7_byKind_18 (by decide) ?_
      refine PW.icmp_ge (tgt := 55) hX dX7_byKind_20 (by decide) (fun c20 => ?_) (fun c20 => ?_)
      · try rw [nI_leI (by omega) (by omega)] at c20
        refine PW.aload_n hX dX7_byKind_55 rfl rfl ?_
        refine PW.getfield hX fl_X7_13 dX7_byKind_56 rfl rfl ?_
        refine PW.iconst (v := nI 2) hX dX7_byKind_59 (by decide) ?_
        refine PW.iload_n hX dX7_byKind_60 rfl rfl ?_
        refine PW.iastore (k := 2) hX dX7_byKind_61 rfl rfl rfl (by decide) ?_
        refine PW.heap eh ?_
        refine PW.iload_n hX dX7_byKind_62 rfl rfl ?_
        refine PW.iret hX hR dX7_byKind_63 rfl rfl ?_
        exact ⟨rfl, rfl⟩
      · try rw [nI_leI (by omega) (by omega)] at c20
        exfalso; omega -- CLOSED
    | succ n ih =>
      intro k v h1 hv Z hZ
      have nx := fun Z2 => ih (k + 1) k (by omega) (by omega) Z2
      obtain ⟨l1, l2⟩ := hal k (by omega)
      have l3 := hle k (by omega)
      rw [hZ] at l1 l2
      have eh := mdNwC M (bkC M k) (va_up (mno M) 2 v) 2 k
      rw [up_up] at eh
      have cM : PM mu_X7_mixed 4 0 0 [.ref 0] (mdB (sC (mNw M (va_up (mno M) 2 k)) (bkC M k))) (eqP (some (.int (nI (bkG P k)))) (mdB (sC (mNw M (va_up (mno M) 2 k)) (bkC M (k + 1))))) := pm_mmx (sC (mNw M (va_up (mno M) 2 k)) (bkC M k)) (plMac P k (plsp P)) (PR_mac pr k) (plMac_ok ok (by omega) ok.2.2.2.1) (up_lt80 h3 (by omega) 2)
      have am : amn (bkG P) (k + 1) = if bkG P k < Z.2 then (k, bkG P k) else Z := by rw [amn, hZ]
      generalize bkC M (k + 1) = C2 at nx cM
      generalize bkC M k = C at eh cM ⊢
      generalize bkG P k = g at *
      refine PW.iload hX dX7_byKind_16 rfl ?_
      refine PW.bipush (v := nI 6) hX dX7_byKind_18 (by decide) ?_
      refine PW.icmp_ge (tgt := 55) hX dX7_byKind_20 (by decide) (fun c20 => ?_) (fun c20 => ?_)
      · try rw [nI_leI (by omega) (by omega)] at c20
        exfalso; omega -- CLOSED
      · try rw [nI_leI (by omega) (by omega)] at c20
        refine PW.aload_n hX dX7_byKind_23 rfl rfl ?_
        refine PW.getfield hX fl_X7_13 dX7_byKind_24 rfl rfl ?_
        refine PW.iconst (v := nI 2) hX dX7_byKind_27 (by decide) ?_
        refine PW.iload hX dX7_byKind_28 rfl ?_
        refine PW.iastore (k := 2) hX dX7_byKind_30 rfl rfl rfl (by decide) ?_
        refine PW.heap eh ?_
        refine PW.aload_n hX dX7_byKind_31 rfl rfl ?_
        refine PW.vIi hX ml_X7_163 (cM) dX7_byKind_32 17 rfl rfl rfl rfl rfl rfl rfl rfl rfl rfl rfl rfl rfl rfl rfl ?_
        refine PW.istore hX dX7_byKind_35 rfl ?_
        refine PW.iload hX dX7_byKind_37 rfl ?_
        refine PW.iload_n hX dX7_byKind_39 rfl rfl ?_
        refine PW.icmp_ge (tgt := 49) hX dX7_byKind_40 (by decide) (fun c40 => ?_) (fun c40 => ?_)
        · try rw [nI_leI (by omega) (by omega)] at c40
          first | refine PW.iinc hX dX7_byKind_49 rfl (iincN _) ?_ | refine PW.iinc hX dX7_byKind_49 rfl rfl ?_
          refine PW.goto (tgt := 16) hX dX7_byKind_52 (by decide) ?_
          refine PW.clr 5 ?_
          exact nx Z (by rw [am, if_neg (by omega)])
        · try rw [nI_leI (by omega) (by omega)] at c40
          refine PW.iload hX dX7_byKind_43 rfl ?_
          refine PW.istore_n hX dX7_byKind_45 rfl rfl ?_
          refine PW.iload hX dX7_byKind_46 rfl ?_
          refine PW.istore_n hX dX7_byKind_48 rfl rfl ?_
          first | refine PW.iinc hX dX7_byKind_49 rfl (iincN _) ?_ | refine PW.iinc hX dX7_byKind_49 rfl rfl ?_
          refine PW.goto (tgt := 16) hX dX7_byKind_52 (by decide) ?_
          refine PW.clr 5 ?_
          exact nx (k, g) (by rw [am, if_pos (by omega)])
  have nx := loop 6 0 (mno M 2) (by decide) b2 _ rfl
  rw [up_id] at nx
  refine PW.aload_n hX dX7_byKind_0 rfl rfl ?_
  refine PW.getfield hX fl_X7_13 dX7_byKind_1 rfl rfl ?_
  refine PW.iconst (v := nI 2) hX dX7_byKind_4 (by decide) ?_
  refine PW.iaload (k := 2) hX dX7_byKind_5 rfl rfl rfl (by decide) ?_
  refine PW.top (show _ = nI (mno M 2) from rfl) ?_
  refine PW.istore_n hX dX7_byKind_6 rfl rfl ?_
  refine PW.iconst (v := nI 0) hX dX7_byKind_7 (by decide) ?_
  refine PW.istore_n hX dX7_byKind_8 rfl rfl ?_
  refine PW.sipush (v := nI 1000) hX dX7_byKind_9 (by decide) ?_
  refine PW.istore_n hX dX7_byKind_12 rfl rfl ?_
  refine PW.iconst (v := nI 0) hX dX7_byKind_13 (by decide) ?_
  refine PW.istore hX dX7_byKind_14 rfl ?_
  exact nx
def sdC (M : Md) (j : Nat) : Nat → MC
  | 0 => M.2.2.1
  | k + 1 => zAll (va_up (mno M) (30 + j) k) (sdC M j k)
def sdG (P : Pl) (j k : Nat) : Nat := mxP (plSe P j k)
def qSend (M : Md) (P : Pl) (x y : Int32) : Int32 × Md := bif inB (plnj P) x then (if y = nI 0 then (nI (amn (sdG P x.toNatClampNeg) 60).1, sC M (sdC M x.toNatClampNeg 60)) else if y = nI 1 then (nI (amn (sdG P x.toNatClampNeg) 60).2, sC M (sdC M x.toNatClampNeg 60)) else (-2, mNo M 2)) else (-1, mNo M 1)
theorem pm_msend (M : Md) (P : Pl) (pr : PR P (mno M)) (ok : PlOk P) (h3 : ∀ j, j < 80 → mno M j < 100) (x y : Int32) : PM mu_X7_send 5 0 0 [.ref 0, .int x, .int y] (mdB M) (eqP (some (.int (qSend M P x y).1)) (mdB (qSend M P x y).2)) := by
  have o1 := ok.1
  have cJ := fun z => pm_mnj M z
  rw [pr.1] at cJ
  unfold qSend
  cases hj : inB (plnj P) x with
  | false =>
    dsimp only [cond_false]
    refine PM.start (Or.inl (by decide +kernel)) rfl rfl rfl ?_
    intro X hX hR hx hin
    refine PW.aload_n hX dX7_send_0 rfl rfl ?_
    refine PW.iload_n hX dX7_send_1 rfl rfl ?_
    refine PW.vIi hX ml_X7_138 (cJ x) dX7_send_2 17 rfl rfl rfl rfl rfl rfl rfl rfl rfl rfl rfl rfl rfl rfl rfl ?_
    rw [hj]
    refine PW.if_eq (tgt := 14) hX dX7_send_5 (by decide) (fun c5 => ?_) (fun c5 => ?_)
    · first | rw [bI_d0] at c5 | rw [bI_eq0] at c5 | rw [nI_eq0 (by omega)] at c5 | skip
      exact absurd c5 (by decide) -- CLOSED
    · first | rw [bI_d0] at c5 | rw [bI_eq0] at c5 | rw [nI_eq0 (by omega)] at c5 | skip
      refine PW.aload_n hX dX7_send_8 rfl rfl ?_
      refine PW.iconst (v := (-1)) hX dX7_send_9 (by decide) ?_
      refine PW.vIi hX ml_X7_64 (pm_no M (-1) 1 (by decide) (by decide)) dX7_send_10 17 rfl rfl rfl rfl rfl rfl rfl rfl rfl rfl rfl rfl rfl rfl rfl ?_
      refine PW.iret hX hR dX7_send_13 rfl rfl ?_
      exact ⟨rfl, rfl⟩
  | true =>
    obtain ⟨j, hj2, rfl⟩ := inB_of (by omega) hj
    dsimp only [cond_true]
    rw [nI_clamp (by omega)]
    cases hy : inB 2 y with
    | false =>
      have hn := inB_neg hy
      obtain ⟨y0, y1⟩ := inB2_f hy
      rw [if_neg y0, if_neg y1]
      refine PM.start (Or.inl (by decide +kernel)) rfl rfl rfl ?_
      intro X hX hR hx hin
      refine PW.aload_n hX dX7_send_0 rfl rfl ?_
      refine PW.iload_n hX dX7_send_1 rfl rfl ?_
      refine PW.vIi hX ml_X7_138 (cJ (nI j)) dX7_send_2 17 rfl rfl rfl rfl rfl rfl rfl rfl rfl rfl rfl rfl rfl rfl rfl ?_
      rw [hj]
      refine PW.if_eq (tgt := 14) hX dX7_send_5 (by decide) (fun c5 => ?_) (fun c5 => ?_)
      · refine PW.iload_n hX dX7_send_14 rfl rfl ?_
        refine PW.if_lt (tgt := 23) hX dX7_send_15 (by decide) (fun c15 => ?_) (fun c15 => ?_)
        · refine PW.aload_n hX dX7_send_23 rfl rfl ?_
          refine PW.bipush (v := (-2)) hX dX7_send_24 (by decide) ?_
          refine PW.vIi hX ml_X7_64 (pm_no M (-2) 2 (by decide) (by decide)) dX7_send_26 17 rfl rfl rfl rfl rfl rfl rfl rfl rfl rfl rfl rfl rfl rfl rfl ?_
          refine PW.iret hX hR dX7_send_29 rfl rfl ?_
          exact ⟨rfl, rfl⟩
        · refine PW.iload_n hX dX7_send_18 rfl rfl ?_
          refine PW.iconst (v := nI 1) hX dX7_send_19 (by decide) ?_
          refine PW.icmp_le (tgt := 30) hX dX7_send_20 (by decide) (fun c20 => ?_) (fun c20 => ?_)
          · exact absurd c20 (mnI_nle (n := 1) (by decide) (hn.resolve_left c15)) -- CLOSED
          · refine PW.aload_n hX dX7_send_23 rfl rfl ?_
            refine PW.bipush (v := (-2)) hX dX7_send_24 (by decide) ?_
            refine PW.vIi hX ml_X7_64 (pm_no M (-2) 2 (by decide) (by decide)) dX7_send_26 17 rfl rfl rfl rfl rfl rfl rfl rfl rfl rfl rfl rfl rfl rfl rfl ?_
            refine PW.iret hX hR dX7_send_29 rfl rfl ?_
            exact ⟨rfl, rfl⟩
      · exact absurd rfl c5 -- CLOSED
    | true =>
      obtain ⟨w, hw, rfl⟩ := inB_of (by decide) hy
      have b2 := h3 (30 + j) (by omega)
      have hle : ∀ k, k < 60 → sdG P j k ≤ 100 := fun k hk => mxP_le (plSe_ok ok hk) (PR_se pr o1 hj2 k)
      have hal : ∀ k, k ≤ 60 → (amn (sdG P j) k).1 ≤ 60 ∧ (amn (sdG P j) k).2 ≤ 1000 := by
        intro k
        induction k with
        | zero => intro _; exact ⟨Nat.zero_le _, Nat.le_refl 1000⟩
        | succ k ih =>
          intro hk
          have := ih (by omega)
          have := hle k (by omega)
          rw [amn]
          split
          · show k ≤ 60 ∧ sdG P j k ≤ 1000
            omega
          · exact ih (by omega)
      have e : (if nI w = nI 0 then (nI (amn (sdG P j) 60).1, sC M (sdC M j 60)) else if nI w = nI 1 then (nI (amn (sdG P j) 60).2, sC M (sdC M j 60)) else (-2, mNo M 2)) = ((if w = 0 then nI (amn (sdG P j) 60).1 else nI (amn (sdG P j) 60).2), sC M (sdC M j 60)) := by
        have : w = 0 ∨ w = 1 := by omega
        rcases this with rfl | rfl
        · rw [if_pos rfl, if_pos rfl]
        · rw [if_neg (by decide), if_pos rfl, if_neg (by decide)]
      rw [e]
      refine PM.start (Or.inl (by decide +kernel)) rfl rfl rfl ?_
      intro X hX hR hx hin
      have loop : ∀ n k v : Nat, k + n = 60 → v < 100 → ∀ Z, amn (sdG P j) k = Z → PW X 51 [some (.ref 0), some (.int (nI j)), some (.int (nI w)), some (.int (nI (mno M (30 + j)))), some (.int (nI Z.1)), some (.int (nI Z.2)), some (.int (nI k)), none] [] (mdB (sC (mNw M (va_up (mno M) (30 + j) v)) (sdC M j k))) 0 0 := by
        intro n
        induction n with
        | zero =>
          intro k v h1 hv Z hZ
          have e : k = 60 := by omega
          subst e
          have eh := mdNwC M (sdC M j 60) (va_up (mno M) (30 + j) v) (30 + j) (mno M (30 + j))
          rw [up_up, up_id] at eh
          rw [hZ] at hR
          generalize sdC M j 60 = C at eh hR ⊢
          refine PW.iload hX dX7_send_51 rfl ?_
          refine PW.bipush (v := nI 60) hX dX7_send_53 (by decide) ?_
          refine PW.icmp_ge (tgt := 96) hX dX7_send_55 (by decide) (fun c55 => ?_) (fun c55 => ?_)
          · try rw [nI_leI (by omega) (by omega)] at c55
            refine PW.aload_n hX dX7_send_96 rfl rfl ?_
            refine PW.getfield hX fl_X7_13 dX7_send_97 rfl rfl ?_
            refine PW.bipush (v := nI 30) hX dX7_send_100 (by decide) ?_
            refine PW.iload_n hX dX7_send_102 rfl rfl ?_
            refine PW.iadd hX dX7_send_103 ?_
            refine PW.top (nI_add 30 j) ?_
            refine PW.iload_n hX dX7_send_104 rfl rfl ?_
            refine PW.iastore (k := 30 + j) hX dX7_send_105 rfl rfl rfl (by omega) ?_
            refine PW.heap eh ?_
            refine PW.iload_n hX dX7_send_106 rfl rfl ?_
            refine PW.if_ne (tgt := 115) hX dX7_send_107 (by decide) (fun c107 => ?_) (fun c107 => ?_)
            · first | rw [bI_d0] at c107 | rw [bI_eq0] at c107 | rw [nI_eq0 (by omega)] at c107 | skip
              refine PW.iload hX dX7_send_115 rfl ?_
              refine PW.iret hX hR dX7_send_117 rfl rfl ?_
              rw [if_neg c107]
              exact ⟨rfl, rfl⟩
            · first | rw [bI_d0] at c107 | rw [bI_eq0] at c107 | rw [nI_eq0 (by omega)] at c107 | skip
              refine PW.iload hX dX7_send_110 rfl ?_
              refine PW.goto (tgt := 117) hX dX7_send_112 (by decide) ?_
              refine PW.iret hX hR dX7_send_117 rfl rfl ?_
              rw [if_pos c107]
              exact ⟨rfl, rfl⟩
          · try rw [nI_leI (by omega) (by omega)] at c55
            exfalso; omega -- CLOSED
        | succ n ih =>
          intro k v h1 hv Z hZ
          have nx := fun Z2 => ih (k + 1) k (by omega) (by omega) Z2
          obtain ⟨l1, l2⟩ := hal k (by omega)
          have l3 := hle k (by omega)
          rw [hZ] at l1 l2
          have eh := mdNwC M (sdC M j k) (va_up (mno M) (30 + j) v) (30 + j) k
          rw [up_up] at eh
          have cM : PM mu_X7_mixed 4 0 0 [.ref 0] (mdB (sC (mNw M (va_up (mno M) (30 + j) k)) (sdC M j k))) (eqP (some (.int (nI (sdG P j k)))) (mdB (sC (mNw M (va_up (mno M) (30 + j) k)) (sdC M j (k + 1))))) := pm_mmx (sC (mNw M (va_up (mno M) (30 + j) k)) (sdC M j k)) (plSe P j k) (PR_se pr o1 hj2 k) (plSe_ok ok (by omega)) (up_lt80 h3 (by omega) (30 + j))
          have am : amn (sdG P j) (k + 1) = if sdG P j k < Z.2 then (k, sdG P j k) else Z := by rw [amn, hZ]
          generalize sdC M j (k + 1) = C2 at nx cM
          generalize sdC M j k = C at eh cM ⊢
          generalize sdG P j k = g at *
          refine PW.iload hX dX7_send_51 rfl ?_
          refine PW.bipush (v := nI 60) hX dX7_send_53 (by decide) ?_
          refine PW.icmp_ge (tgt := 96) hX dX7_send_55 (by decide) (fun c55 => ?_) (fun c55 => ?_)
          · try rw [nI_leI (by omega) (by omega)] at c55
            exfalso; omega -- CLOSED
          · try rw [nI_leI (by omega) (by omega)] at c55
            refine PW.aload_n hX dX7_send_58 rfl rfl ?_
            refine PW.getfield hX fl_X7_13 dX7_send_59 rfl rfl ?_
            refine PW.bipush (v := nI 30) hX dX7_send_62 (by decide) ?_
            refine PW.iload_n hX dX7_send_64 rfl rfl ?_
            refine PW.iadd hX dX7_send_65 ?_
            refine PW.top (nI_add 30 j) ?_
            refine PW.iload hX dX7_send_66 rfl ?_
            refine PW.iastore (k := 30 + j) hX dX7_send_68 rfl rfl rfl (by omega) ?_
            refine PW.heap eh ?_
            refine PW.aload_n hX dX7_send_69 rfl rfl ?_
            refine PW.vIi hX ml_X7_163 (cM) dX7_send_70 17 rfl rfl rfl rfl rfl rfl rfl rfl rfl rfl rfl rfl rfl rfl rfl ?_
            refine PW.istore hX dX7_send_73 rfl ?_
            refine PW.iload hX dX7_send_75 rfl ?_
            refine PW.iload hX dX7_send_77 rfl ?_
            refine PW.icmp_ge (tgt := 90) hX dX7_send_79 (by decide) (fun c79 => ?_) (fun c79 => ?_)
            · try rw [nI_leI (by omega) (by omega)] at c79
              first | refine PW.iinc hX dX7_send_90 rfl (iincN _) ?_ | refine PW.iinc hX dX7_send_90 rfl rfl ?_
              refine PW.goto (tgt := 51) hX dX7_send_93 (by decide) ?_
              refine PW.clr 7 ?_
              exact nx Z (by rw [am, if_neg (by omega)])
            · try rw [nI_leI (by omega) (by omega)] at c79
              refine PW.iload hX dX7_send_82 rfl ?_
              refine PW.istore hX dX7_send_84 rfl ?_
              refine PW.iload hX dX7_send_86 rfl ?_
              refine PW.istore hX dX7_send_88 rfl ?_
              first | refine PW.iinc hX dX7_send_90 rfl (iincN _) ?_ | refine PW.iinc hX dX7_send_90 rfl rfl ?_
              refine PW.goto (tgt := 51) hX dX7_send_93 (by decide) ?_
              refine PW.clr 7 ?_
              exact nx (k, g) (by rw [am, if_pos (by omega)])
      have nx := loop 60 0 (mno M (30 + j)) (by decide) b2 _ rfl
      rw [up_id] at nx
      refine PW.aload_n hX dX7_send_0 rfl rfl ?_
      refine PW.iload_n hX dX7_send_1 rfl rfl ?_
      refine PW.vIi hX ml_X7_138 (cJ (nI j)) dX7_send_2 17 rfl rfl rfl rfl rfl rfl rfl rfl rfl rfl rfl rfl rfl rfl rfl ?_
      rw [hj]
      refine PW.if_eq (tgt := 14) hX dX7_send_5 (by decide) (fun c5 => ?_) (fun c5 => ?_)
      · first | rw [bI_d0] at c5 | rw [bI_eq0] at c5 | rw [nI_eq0 (by omega)] at c5 | skip
        refine PW.iload_n hX dX7_send_14 rfl rfl ?_
        refine PW.if_lt (tgt := 23) hX dX7_send_15 (by decide) (fun c15 => ?_) (fun c15 => ?_)
        · try rw [nI_lt0 (by omega)] at c15
          exact c15.elim -- CLOSED
        · try rw [nI_lt0 (by omega)] at c15
          refine PW.iload_n hX dX7_send_18 rfl rfl ?_
          refine PW.iconst (v := nI 1) hX dX7_send_19 (by decide) ?_
          refine PW.icmp_le (tgt := 30) hX dX7_send_20 (by decide) (fun c20 => ?_) (fun c20 => ?_)
          · try rw [nI_leI (by omega) (by omega)] at c20
            refine PW.aload_n hX dX7_send_30 rfl rfl ?_
            refine PW.getfield hX fl_X7_13 dX7_send_31 rfl rfl ?_
            refine PW.bipush (v := nI 30) hX dX7_send_34 (by decide) ?_
            refine PW.iload_n hX dX7_send_36 rfl rfl ?_
            refine PW.iadd hX dX7_send_37 ?_
            refine PW.top (nI_add 30 j) ?_
            refine PW.iaload (k := 30 + j) hX dX7_send_38 rfl rfl rfl (by omega) ?_
            refine PW.top (show _ = nI (mno M (30 + j)) from rfl) ?_
            refine PW.istore_n hX dX7_send_39 rfl rfl ?_
            refine PW.iconst (v := nI 0) hX dX7_send_40 (by decide) ?_
            refine PW.istore hX dX7_send_41 rfl ?_
            refine PW.sipush (v := nI 1000) hX dX7_send_43 (by decide) ?_
            refine PW.istore hX dX7_send_46 rfl ?_
            refine PW.iconst (v := nI 0) hX dX7_send_48 (by decide) ?_
            refine PW.istore hX dX7_send_49 rfl ?_
            exact nx
          · try rw [nI_leI (by omega) (by omega)] at c20
            exfalso; omega -- CLOSED
      · first | rw [bI_d0] at c5 | rw [bI_eq0] at c5 | rw [nI_eq0 (by omega)] at c5 | skip
        exact absurd rfl c5 -- CLOSED
