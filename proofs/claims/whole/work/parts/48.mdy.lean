/-! ===== the reference's day, and that it is the class's ===== -/
def PR (P : Pl) (f : Nat → Nat) : Prop := f 0 = plnj P ∧ f 1 = plnt P ∧ f 2 = plkd P ∧ f 3 = plsp P ∧ (∀ j, j < plnj P → f (10 + j) = plow P j ∧ f (20 + j) = plsh P j ∧ f (30 + j) = plse P j) ∧ ∀ t, t < plnt P → f (40 + t) = pltk P t ∧ f (50 + t) = pltw P t ∧ f (60 + t) = pltf P t ∧ f (70 + t) = pltm P t
abbrev cle (C : MC) : Nat → Nat := C.1
abbrev cou (C : MC) : Nat → Nat := C.2.1
abbrev coa (C : MC) : Nat → Nat := C.2.2.1
abbrev cos (C : MC) : Nat := C.2.2.2.1
abbrev ctr (C : MC) : Nat → Nat := C.2.2.2.2.1
abbrev cly (C : MC) : Nat := C.2.2.2.2.2.1
abbrev cho (C : MC) : Nat → Int32 := C.2.2.2.2.2.2.1
abbrev cwh (C : MC) : Nat → Int32 := C.2.2.2.2.2.2.2
def mWt (f le : Nat → Nat) (m j : Nat) : Bool := decide (0 < le j ∧ f (30 + j) ≤ m)
def mAh (f le : Nat → Nat) (a b : Nat) : Bool := if f 2 = 5 ∧ ¬ f (10 + a) = f (10 + b) then decide (f (10 + a) < f (10 + b)) else if (f 2 = 1 ∨ f 2 = 5) ∧ ¬ le a = le b then decide (le a < le b) else decide (f (30 + a) < f (30 + b))
def mPk (f : Nat → Nat) (l k : Nat) : Nat := if f 2 = 2 then (l + (k + 1)) % f 0 else k
def mCh (f le : Nat → Nat) (m l : Nat) : Nat → Option Nat
  | 0 => none
  | k + 1 => match mCh f le m l k with
    | none => bif mWt f le m (mPk f l k) then some (mPk f l k) else none
    | some c => bif mWt f le m (mPk f l k) && (decide (¬ f 2 = 2) && mAh f le (mPk f l k) c) then some (mPk f l k) else some c
def cA (l n : Nat) (w : Nat → Bool) : Nat → Option Nat
  | 0 => none
  | k + 1 => match cA l n w k with
    | none => bif w ((l + (k + 1)) % n) then some ((l + (k + 1)) % n) else none
    | some c => some c
def cB (t : Nat → Nat) (w : Nat → Bool) : Nat → Option Nat
  | 0 => none
  | n + 1 => match cB t w n with
    | none => bif w n then some n else none
    | some c => bif w n && decide (t n < t c) then some n else some c
def wl (a b c d e f : Bool) (j : Nat) : Bool := [a, b, c, d, e, f].getD j false
theorem rot_dec : ∀ a b c d e f : Bool, ∀ n, n < 7 → ∀ l, l < n → cA l n (wl a b c d e f) n = cB (fun j => (j + 5 - l) % 6) (wl a b c d e f) n ∧ (l + 1 = n → cA l n (wl a b c d e f) n = cB (fun j => j) (wl a b c d e f) n) := by decide +kernel
theorem cA_congr {l n : Nat} {w v : Nat → Bool} (h : ∀ j, j < n → w j = v j) (hn : 0 < n) : ∀ k, cA l n w k = cA l n v k
  | 0 => rfl
  | k + 1 => by rw [cA, cA, cA_congr h hn k, h _ (Nat.mod_lt _ hn)]
theorem cB_congr {t : Nat → Nat} {n : Nat} {w v : Nat → Bool} (h : ∀ j, j < n → w j = v j) : ∀ k, k ≤ n → cB t w k = cB t v k
  | 0, _ => rfl
  | k + 1, hk => by rw [cB, cB, cB_congr h k (by omega), h k (by omega)]
theorem wl_of (w : Nat → Bool) : ∀ j, j < 6 → w j = wl (w 0) (w 1) (w 2) (w 3) (w 4) (w 5) j := by
  intro j hj
  have : j = 0 ∨ j = 1 ∨ j = 2 ∨ j = 3 ∨ j = 4 ∨ j = 5 := by omega
  rcases this with rfl | rfl | rfl | rfl | rfl | rfl <;> rfl
theorem cAB (w : Nat → Bool) {n l : Nat} (hn : n ≤ 6) (hl : l < n) : cA l n w n = cB (fun j => (j + 5 - l) % 6) w n ∧ (l + 1 = n → cA l n w n = cB (fun j => j) w n) := by
  have h := rot_dec (w 0) (w 1) (w 2) (w 3) (w 4) (w 5) n (by omega) l hl
  have hw : ∀ j, j < n → wl (w 0) (w 1) (w 2) (w 3) (w 4) (w 5) j = w j := fun j hj => (wl_of w j (by omega)).symm
  rw [cA_congr hw (by omega) n, cB_congr hw n (Nat.le_refl _), cB_congr hw n (Nat.le_refl _)] at h
  exact h
def laR (P : Pl) (la : Option Nat) (l : Nat) : Prop := match la with
  | none => l = plnj P - 1
  | some k => l = k / 10
theorem ch_eq {P : Pl} {f : Nat → Nat} (pr : PR P f) (ok : PlOk P) {le le' : Nat → Nat} (hle : ∀ j, j < plnj P → le j = le' j) {la : Option Nat} {l : Nat} (hl : 0 < plnj P → l < plnj P) (hla : laR P la l) (m : Nat) : mCh f le m l (f 0) = chs P le' la m (plnj P) := by
  obtain ⟨p0, p1, p2, p3, p4, p5⟩ := pr
  have hw : ∀ j, j < plnj P → mWt f le m j = wtg P le' m j := by
    intro j hj
    unfold mWt wtg
    rw [hle j hj, (p4 j hj).2.2]
  by_cases hk : plkd P = 2
  · by_cases hn : plnj P = 0
    · rw [p0, hn]; rfl
    · have h1 : ∀ k, mCh f le m l k = cA l (plnj P) (mWt f le m) k := by
        intro k
        induction k with
        | zero => rfl
        | succ k ih =>
          have ep : mPk f l k = (l + (k + 1)) % plnj P := by unfold mPk; rw [if_pos (p2.trans hk), p0]
          rw [mCh, cA, ih, ep]
          cases cA l (plnj P) (mWt f le m) k with
          | none => rfl
          | some c =>
            dsimp only
            rw [decide_eq_false (fun q => q (p2.trans hk)), Bool.false_and, Bool.and_false]
            rfl
      have h2 : ∀ k, chs P le' la m k = cB (trn la) (wtg P le' m) k := by
        intro k
        induction k with
        | zero => rfl
        | succ k ih =>
          rw [chs, cB, ih]
          cases cB (trn la) (wtg P le' m) k with
          | none => rfl
          | some c =>
            dsimp only
            unfold ahd
            rw [if_pos hk]
      rw [h1, h2, p0, cA_congr hw (by omega)]
      obtain ⟨c1, c2⟩ := cAB (wtg P le' m) ok.1 (hl (by omega))
      cases la with
      | none =>
        have hla : l = plnj P - 1 := hla
        exact c2 (by omega)
      | some k =>
        have hla : l = k / 10 := hla
        rw [c1, hla]
        rfl
  · have h1 : ∀ k, k ≤ plnj P → mCh f le m l k = chs P le' la m k := by
      intro k
      induction k with
      | zero => intro _; rfl
      | succ k ih =>
        intro hk2
        have ep : mPk f l k = k := by unfold mPk; rw [if_neg (by rw [p2]; exact hk)]
        rw [mCh, chs, ih (by omega), ep, hw k (by omega)]
        cases hc : chs P le' la m k with
        | none => rfl
        | some c =>
          have hcl := (chs_lt _ _ _ _ _ _ hc).1
          dsimp only
          have ea : (decide (¬ f 2 = 2) && mAh f le k c) = ahd P le' la k c := by
            unfold mAh ahd
            rw [p2, decide_eq_true hk, Bool.true_and, if_neg hk, hle k (by omega), hle c (by omega), (p4 k (by omega)).1, (p4 k (by omega)).2.2, (p4 c (by omega)).1, (p4 c (by omega)).2.2]
          rw [ea]
    rw [p0]
    exact h1 _ (Nat.le_refl _)
theorem mCh_lt {f le : Nat → Nat} {m l : Nat} (h0 : 0 < f 0) : ∀ k, k ≤ f 0 → ∀ c, mCh f le m l k = some c → c < f 0
  | 0, _, c, h => by cases h
  | k + 1, hk, c, h => by
    have hp : mPk f l k < f 0 := by
      unfold mPk
      split
      · exact Nat.mod_lt _ h0
      · omega
    rw [mCh] at h
    cases hc : mCh f le m l k with
    | none =>
      rw [hc] at h
      cases hw : mWt f le m (mPk f l k) with
      | false => rw [hw] at h; cases h
      | true => rw [hw] at h; cases h; exact hp
    | some c0 =>
      rw [hc] at h
      have ih := mCh_lt h0 k (by omega) c0 hc
      dsimp only at h
      cases hw : (mWt f le m (mPk f l k) && (decide (¬ f 2 = 2) && mAh f le (mPk f l k) c0)) with
      | false => rw [hw] at h; cases h; exact ih
      | true => rw [hw] at h; cases h; exact hp
/-! put -/
def mSh (tr : Nat → Nat) (ly k : Nat) : Nat → Nat := fun j => if k < j ∧ j ≤ ly then tr (j - 1) else tr j
def mPut (f : Nat → Nat) (C : MC) (s m : Nat) : MC := (cle C, va_up (cou C) (cos C) s, va_up (coa C) (cos C) m, cos C + 1, (if f 2 = 3 then va_up (mSh (ctr C) (cly C) 0) 0 s else va_up (ctr C) (cly C) s), cly C + 1, (if cho C s = -8 then upd (cho C) s (-9) else cho C), cwh C)
/-! take -/
def mWh (f : Nat → Nat) (C : MC) (j : Nat) : Bool := decide (orN (lyF (ctr C) j) (cly C) = upTo (f (20 + j)))
def mSome (f : Nat → Nat) (C : MC) (o : Nat) : Nat → Bool
  | 0 => false
  | j + 1 => mSome f C o j || (decide (f (10 + j) = o) && mWh f C j)
def mTk (f : Nat → Nat) (k fi o n : Nat) (neat : Bool) (wh : Nat → Bool) (i s : Nat) : Bool := decide (k = 0) || ((decide (f (10 + s / 10) = o) && (decide (k = 1) || (neat || (decide (k = 5) && wh (s / 10))))) || (decide (k = 2 ∧ n ≤ i + fi) || decide (k = 4 ∧ i < fi)))
def gvM (tk : Nat → Nat → Bool) (o : Nat) (s : Nat → Nat) (ho : Nat → Int32) : Nat → (Nat → Nat) × Nat × (Nat → Int32)
  | 0 => (s, 0, ho)
  | i + 1 => bif tk i ((gvM tk o s ho i).1 i) then ((gvM tk o s ho i).1, (gvM tk o s ho i).2.1, upd (gvM tk o s ho i).2.2 ((gvM tk o s ho i).1 i) (nI o)) else (va_up (gvM tk o s ho i).1 (gvM tk o s ho i).2.1 ((gvM tk o s ho i).1 i), (gvM tk o s ho i).2.1 + 1, (gvM tk o s ho i).2.2)
def tkB (f : Nat → Nat) (C : MC) (t : Nat) : Nat → Nat → Bool := mTk f (f (40 + t)) (f (60 + t)) (f (50 + t)) (cly C) (decide (f (40 + t) = 3) && mSome f C (f (50 + t)) (f 0)) (mWh f C)
def gvC (f : Nat → Nat) (C : MC) (t i : Nat) : (Nat → Nat) × Nat × (Nat → Int32) := gvM (tkB f C t) (f (50 + t)) (ctr C) (cho C) i
def mTake (f : Nat → Nat) (C : MC) (t : Nat) : MC := (cle C, cou C, coa C, cos C, (gvC f C t (cly C)).1, (gvC f C t (cly C)).2.1, (gvC f C t (cly C)).2.2, fun j => if j < f 0 then bI (mWh f C j) else cwh C j)
/-! the day -/
abbrev MZ : Type := MC × Nat × Nat
def zBeg (f : Nat → Nat) (C : MC) : MZ := ((fun j => if j < 6 then (if j < f 0 then f (20 + j) else 0) else cle C j, cou C, coa C, 0, ctr C, 0, fun j => if j < 60 then -8 else cho C j, cwh C), f 0 - 1, 0)
def cLe (C : MC) (le : Nat → Nat) : MC := (le, C.2)
def zPut (f : Nat → Nat) (Z : MZ) (m : Nat) : MZ := if f 2 = 4 ∧ 0 < f 3 ∧ Z.2.2 = f 3 then (mPut f Z.1 (cou Z.1 (cos Z.1 - 1)) m, Z.2.1, 0) else match mCh f (cle Z.1) m Z.2.1 (f 0) with
  | none => Z
  | some j => (mPut f (cLe Z.1 (va_up (cle Z.1) j (cle Z.1 j - 1))) (10 * j + f (20 + j) - (cle Z.1 j - 1)) m, j, Z.2.2 + 1)
def zTk (f : Nat → Nat) (m : Nat) (C : MC) : Nat → MC
  | 0 => C
  | t + 1 => if f (70 + t) = m then mTake f (zTk f m C t) t else zTk f m C t
def zMin (f : Nat → Nat) (Z : MZ) (m : Nat) : MZ := (zTk f m (zPut f Z m).1 (f 1), (zPut f Z m).2)
def zRun (f : Nat → Nat) (C : MC) : Nat → MZ
  | 0 => zBeg f C
  | n + 1 => zMin f (zRun f C n) n
/-! the relation -/
def CRl (D : Dy) (C : MC) : Prop := cos C = dyn D ∧ (∀ i, i < dyn D → cou C i = dyos D i ∧ coa C i = dyom D i) ∧ cly C = tyn (dyty D) ∧ (∀ i, i < tyn (dyty D) → ctr C i = tysh (dyty D) i) ∧ (∀ k, k < 60 → cho C k = hOf D k)
def DIn (P : Pl) (D : Dy) : Prop := tyn (dyty D) ≤ dyn D ∧ (∀ i, i < tyn (dyty D) → dyfo D (tysh (dyty D) i) ≠ none) ∧ (∀ k, k < 60 → dyfo D k = none → dyho D k = none) ∧ (plkd P = 4 → 0 < plsp P → prsi (dypr D) ≤ plsp P) ∧ (0 < prsi (dypr D) → prla (dypr D) ≠ none) ∧ (∀ k, prla (dypr D) = some k → 0 < dyn D ∧ dyos D (dyn D - 1) = k) ∧ (prla (dypr D) = none → dyn D = 0)
def ZR (P : Pl) (D : Dy) (Z : MZ) : Prop := (∀ j, j < plnj P → cle Z.1 j = prle (dypr D) j) ∧ CRl D Z.1 ∧ laR P (prla (dypr D)) Z.2.1 ∧ Z.2.2 = prsi (dypr D) ∧ DIn P D
