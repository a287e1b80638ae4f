/-! ===== the reference's text against the class's text ===== -/
def AR (T : Te) (M : Md) : Prop := mta M = tele T ∧ mtn M = ten T ∧ mat' M = tepl T
def SB (M N : Md) : Prop := N.1 = M.1 ∧ N.2.2 = M.2.2
theorem SB.t {A B C : Md} (h : SB A B) (k : SB B C) : SB A C := ⟨k.1.trans h.1, k.2.trans h.2⟩
theorem sb_exp (M : Md) (c : Nat) : SB M (mExp M c) := by unfold mExp; split <;> exact ⟨rfl, rfl⟩
theorem sb_one (M : Md) (n : Nat) (f : Nat → Int32) : SB M (mOne M n f).2 := by
  unfold mOne
  split
  · split <;> exact ⟨rfl, rfl⟩
  · exact ⟨rfl, rfl⟩
theorem sb_fig (M : Md) (r : Nat) : SB M (mFig M r).2 := by unfold mFig; cases mwe M <;> exact ⟨rfl, rfl⟩
theorem sb_sf (A : Md) (k r : Nat) : SB A (mSf A k r) := (sb_fig A r).t ⟨rfl, rfl⟩
theorem sb_s3 (A : Md) : SB A (mS3 A) := (((sb_sf A 1 1).t (sb_sf _ 2 1)).t (sb_exp _ 44)).t (sb_sf _ 3 2)
theorem sb_stm (M : Md) : SB M (mStm M) := by
  have h0 : SB M (mS0 M) := (sb_one M 3 bgF).t ⟨rfl, rfl⟩
  have h1 : SB (mS0 M) (mS1 (mS0 M)) := (sb_one _ 6 maF).t ⟨rfl, rfl⟩
  have h2 : SB (mS0 M) (mS2 (mS0 M)) := (sb_one _ 6 tkF).t ⟨rfl, rfl⟩
  have h3 : SB (mS0 M) (mFf (mS0 M) 0 0) := ⟨rfl, rfl⟩
  unfold mStm
  split
  · exact ((h0.t h1).t (sb_sf _ 1 1)).t (sb_exp _ 59)
  · split
    · exact ((h0.t h2).t (sb_s3 _)).t (sb_exp _ 59)
    · exact ((h0.t h3).t (sb_s3 _)).t (sb_exp _ 59)
theorem fi_exp (M : Md) (c : Nat) : mfi (mExp M c) = mfi M ∧ mso (mExp M c) = mso M := by unfold mExp; split <;> exact ⟨rfl, rfl⟩
theorem fi_one (M : Md) (n : Nat) (f : Nat → Int32) : mfi (mOne M n f).2 = mfi M ∧ mso (mOne M n f).2 = mso M := by
  unfold mOne
  split
  · split <;> exact ⟨rfl, rfl⟩
  · exact ⟨rfl, rfl⟩
theorem fi_fig (M : Md) (r : Nat) : mfi (mFig M r).2 = mfi M ∧ mso (mFig M r).2 = mso M := by unfold mFig; cases mwe M <;> exact ⟨rfl, rfl⟩
theorem fi_sf (A : Md) (k r : Nat) : mfi (mSf A k r) = va_up (mfi A) k (mFig A r).1 ∧ mso (mSf A k r) = mso A := by
  refine ⟨?_, (fi_fig A r).2⟩
  show va_up (mfi (mFig A r).2) k (mFig A r).1 = _
  rw [(fi_fig A r).1]
def DR (T : Te) (M : Md) : Prop := AR T M ∧ mwe M = false
theorem DR_exp {T : Te} {M : Md} (h : DR T M) (c : Nat) : DR T (mExp M c) := by
  unfold mExp
  rw [if_neg (fun q => by rw [h.2] at q; exact absurd q.1 (by decide))]
  exact ⟨h.1, rfl⟩
theorem DR_fig {T : Te} {M : Md} (h : DR T M) (r : Nat) : DR T (mFig M r).2 := by unfold mFig; rw [h.2]; exact h
theorem DR_one {T : Te} {M : Md} (h : DR T M) (n : Nat) (f : Nat → Int32) : DR T (mOne M n f).2 := by
  unfold mOne
  rw [if_neg (fun q => by rw [h.2] at q; exact absurd q.1 (by decide))]
  exact ⟨h.1, rfl⟩
theorem DR_sf {T : Te} {M : Md} (h : DR T M) (k r : Nat) : DR T (mSf M k r) := DR_fig h r
def CR (f : Te → Bool × Te) (g : Md → Md) : Prop := (∀ T A, AR T A → mwe A = true → AR (f T).2 (g A) ∧ mwe (g A) = (f T).1) ∧ (∀ T A, DR T A → DR T (g A))
theorem CR_and {f f' : Te → Bool × Te} {g g' : Md → Md} (h1 : CR f g) (h2 : CR f' g') : CR (andT f f') (fun A => g' (g A)) := by
  refine ⟨fun T A a w => ?_, fun T A d => h2.2 T _ (h1.2 T A d)⟩
  obtain ⟨a1, w1⟩ := h1.1 T A a w
  cases hb : (f T).1 with
  | true => rw [andT_t hb]; exact h2.1 _ _ a1 (w1.trans hb)
  | false =>
    rw [andT_f hb]
    exact h2.2 (f T).2 (g A) ⟨a1, w1.trans hb⟩
theorem CR_sign (c : Nat) : CR (rSign c) (fun A => mExp A c) := by
  refine ⟨fun T A a w => ?_, fun T A d => DR_exp d c⟩
  obtain ⟨a, b, d⟩ := a
  show AR (rSign c T).2 (mExp A c) ∧ mwe (mExp A c) = (rSign c T).1
  unfold mExp rSign
  rw [a, b, d]
  by_cases hc : tepl T < ten T ∧ tele T (tepl T) = c
  · have hl : mwe A = true ∧ tepl T < ten T ∧ tele T (tepl T) = c := ⟨w, hc⟩
    rw [if_pos hl, if_pos hc]
    exact ⟨⟨a, b, rfl⟩, rfl⟩
  · have hl : ¬ (mwe A = true ∧ tepl T < ten T ∧ tele T (tepl T) = c) := fun q => hc q.2
    rw [if_neg hl, if_neg hc]
    exact ⟨⟨a, b, rfl⟩, rfl⟩
theorem fg1 {T : Te} {M : Md} (h : AR T M) : fgM M 1 = (match dgt T with | none => (0, 0, tepl T) | some x => (x, 1, tepl T + 1)) := by
  obtain ⟨a, b, d⟩ := h
  unfold fgM dgt
  rw [a, b, d, fgL]
  by_cases hc : tepl T < ten T ∧ 48 ≤ tele T (tepl T) ∧ tele T (tepl T) ≤ 57
  · rw [if_pos hc, if_pos hc, fgL]
    simp
  · rw [if_neg hc, if_neg hc]
theorem fg2 {T : Te} {M : Md} (h : AR T M) : fgM M 2 = (match dgt T with | none => (0, 0, tepl T) | some x => (match dgt (teAdv T) with | none => (x, 1, tepl T + 1) | some y => (10 * x + y, 2, tepl T + 2))) := by
  obtain ⟨a, b, d⟩ := h
  unfold fgM
  rw [a, b, d, fgL]
  by_cases hc : tepl T < ten T ∧ 48 ≤ tele T (tepl T) ∧ tele T (tepl T) ≤ 57
  · have e1 : dgt T = some (tele T (tepl T) - 48) := by unfold dgt; rw [if_pos hc]
    rw [if_pos hc, fgL, e1]
    dsimp only
    by_cases hc2 : tepl T + 1 < ten T ∧ 48 ≤ tele T (tepl T + 1) ∧ tele T (tepl T + 1) ≤ 57
    · have e2 : dgt (teAdv T) = some (tele T (tepl T + 1) - 48) := by
        show (if tepl T + 1 < ten T ∧ 48 ≤ tele T (tepl T + 1) ∧ tele T (tepl T + 1) ≤ 57 then some (tele T (tepl T + 1) - 48) else none) = _
        rw [if_pos hc2]
      rw [if_pos hc2, fgL, e2]
      refine Prod.ext ?_ rfl
      show 10 * (10 * 0 + tele T (tepl T) - 48) + tele T (tepl T + 1) - 48 = 10 * (tele T (tepl T) - 48) + (tele T (tepl T + 1) - 48)
      omega
    · have e2 : dgt (teAdv T) = none := by
        show (if tepl T + 1 < ten T ∧ 48 ≤ tele T (tepl T + 1) ∧ tele T (tepl T + 1) ≤ 57 then some (tele T (tepl T + 1) - 48) else none) = _
        rw [if_neg hc2]
      rw [if_neg hc2, e2]
      simp
  · have e1 : dgt T = none := by unfold dgt; rw [if_neg hc]
    rw [if_neg hc, e1]
theorem mFig_t {M : Md} (w : mwe M = true) (r : Nat) : mFig M r = ((fgM M r).1, mAt M (fgM M r).2.2 (decide (0 < (fgM M r).2.1))) := by unfold mFig; rw [w]; rfl
theorem fig1_R {T : Te} {M : Md} (h : AR T M) (w : mwe M = true) : (dgt T = none → DR T (mFig M 1).2) ∧ (∀ x, dgt T = some x → (mFig M 1).1 = x ∧ AR (teAdv T) (mFig M 1).2 ∧ mwe (mFig M 1).2 = true) := by
  have e := fg1 h
  rw [mFig_t w, e]
  refine ⟨fun hd => ?_, fun x hd => ?_⟩
  · rw [hd]; exact ⟨⟨h.1, h.2.1, rfl⟩, rfl⟩
  · rw [hd]; exact ⟨rfl, ⟨h.1, h.2.1, rfl⟩, rfl⟩
theorem CR_own : CR rOwn (fun A => mSf A 1 1) := by
  refine ⟨fun T A a w => ?_, fun T A d => DR_sf d 1 1⟩
  obtain ⟨h1, h2⟩ := fig1_R a w
  unfold rOwn
  cases hd : dgt T with
  | none => exact h1 hd
  | some x => exact (h2 x hd).2
theorem CR_fig (k : Nat) : CR rFig (fun A => mSf A k 1) := by
  refine ⟨fun T A a w => ?_, fun T A d => DR_sf d k 1⟩
  obtain ⟨h1, h2⟩ := fig1_R a w
  unfold rFig
  cases hd : dgt T with
  | none => exact h1 hd
  | some x => exact (h2 x hd).2
theorem dgt_M (T : Te) (x : Int32) : dgt (teM T x) = dgt T := rfl
theorem fig2_R {T : Te} {M : Md} (h : AR T M) (w : mwe M = true) : AR (rMin T).2 (mFig M 2).2 ∧ mwe (mFig M 2).2 = (rMin T).1 ∧ ((rMin T).1 = true → temi (rMin T).2 = nI (mFig M 2).1 ∧ (mFig M 2).1 < 100) := by
  have e := fg2 h
  rw [mFig_t w, e]
  unfold rMin
  cases hd : dgt T with
  | none => exact ⟨⟨h.1, h.2.1, rfl⟩, rfl, fun q => by cases q⟩
  | some x =>
    have hx := (dgt_lt hd).1
    dsimp only
    rw [dgt_M]
    cases hd2 : dgt (teAdv T) with
    | none => exact ⟨⟨h.1, h.2.1, rfl⟩, rfl, fun _ => ⟨rfl, by show x < 100; omega⟩⟩
    | some y =>
      have hy := (dgt_lt hd2).1
      exact ⟨⟨h.1, h.2.1, rfl⟩, rfl, fun _ => ⟨rfl, by show 10 * x + y < 100; omega⟩⟩
theorem CR_min (k : Nat) : CR rMin (fun A => mSf A k 2) := ⟨fun _ _ a w => ⟨(fig2_R a w).1, (fig2_R a w).2.1⟩, fun _ _ d => DR_sf d k 2⟩
theorem ixF_oo (i : Nat) (f : Nat → Int32) (hf : ∀ k, k < 6 → txC i k = f k) (c : Nat) : ∀ n k, k + n ≤ 6 → ixF i c n k = ooF f c n k
  | 0, _, _ => rfl
  | n + 1, k, h => by
    rw [ixF, ooF, hf k (by omega), ixF_oo i f hf c n (k + 1) (by omega)]
    by_cases e : f k = nI c
    · rw [if_pos e, if_pos e.symm]
    · rw [if_neg e, if_neg (fun q => e q.symm)]
theorem one_R (i : Nat) (f : Nat → Int32) (hf : ∀ k, k < 6 → txC i k = f k) {T : Te} {M : Md} (h : AR T M) (w : mwe M = true) : AR (rKind i T).2 (mOne M 6 f).2 ∧ mwe (mOne M 6 f).2 = (rKind i T).1 ∧ ((rKind i T).1 = true → teki (rKind i T).2 = nI (mOne M 6 f).1) := by
  obtain ⟨a, b, d⟩ := h
  unfold mOne rKind
  rw [a, b, d]
  by_cases hc : tepl T < ten T
  · have hl : mwe M = true ∧ tepl T < ten T := ⟨w, hc⟩
    rw [if_pos hl, if_pos hc, ← ixF_oo i f hf (tele T (tepl T)) 6 0 (by omega)]
    cases hk : ixF i (tele T (tepl T)) 6 0 with
    | none => exact ⟨⟨a, b, rfl⟩, rfl, fun q => by cases q⟩
    | some k => exact ⟨⟨a, b, rfl⟩, rfl, fun _ => rfl⟩
  · have hl : ¬ (mwe M = true ∧ tepl T < ten T) := fun q => hc q.2
    rw [if_neg hl, if_neg hc]
    exact ⟨⟨a, b, rfl⟩, rfl, fun q => by cases q⟩
theorem ma_tx : ∀ k, k < 6 → txC 0 k = maF k := by decide
theorem tk_tx : ∀ k, k < 6 → txC 1 k = tkF k := by decide
theorem CR_ma : CR (rKind 0) mS1 := ⟨fun _ _ a w => ⟨(one_R 0 maF ma_tx a w).1, (one_R 0 maF ma_tx a w).2.1⟩, fun _ _ d => DR_one d 6 maF⟩
theorem CR_tk : CR (rKind 1) mS2 := ⟨fun _ _ a w => ⟨(one_R 1 tkF tk_tx a w).1, (one_R 1 tkF tk_tx a w).2.1⟩, fun _ _ d => DR_one d 6 tkF⟩
theorem CR_OFM : CR rOFM (fun A => mExp (mS3 A) 59) := CR_and CR_own (CR_and (CR_fig 2) (CR_and (CR_sign 44) (CR_and (CR_min 3) (CR_sign 59))))
/-! the fields -/
def F3 (Z : Te) (N : Md) : Prop := teow Z = nI (mfi N 1) ∧ tefi Z = nI (mfi N 2) ∧ temi Z = nI (mfi N 3) ∧ mfi N 1 < 10 ∧ mfi N 2 < 10 ∧ mfi N 3 < 100
theorem andT_tt {f g : Te → Bool × Te} {T : Te} (h : (andT f g T).1 = true) : (f T).1 = true ∧ andT f g T = g (f T).2 ∧ (g (f T).2).1 = true := by
  cases hb : (f T).1 with
  | false => rw [andT_f hb] at h; cases h
  | true => rw [andT_t hb] at h; exact ⟨rfl, andT_t hb, h⟩
theorem ks_sign (c : Nat) (T : Te) : tehd (rSign c T).2 = tehd T ∧ teki (rSign c T).2 = teki T ∧ teow (rSign c T).2 = teow T ∧ tefi (rSign c T).2 = tefi T ∧ temi (rSign c T).2 = temi T := by
  unfold rSign
  split <;> exact ⟨rfl, rfl, rfl, rfl, rfl⟩
theorem ks_min (T : Te) : tehd (rMin T).2 = tehd T ∧ teki (rMin T).2 = teki T ∧ teow (rMin T).2 = teow T ∧ tefi (rMin T).2 = tefi T := by
  unfold rMin
  cases dgt T with
  | none => exact ⟨rfl, rfl, rfl, rfl⟩
  | some x =>
    dsimp only
    rw [dgt_M]
    cases dgt (teAdv T) <;> exact ⟨rfl, rfl, rfl, rfl⟩
theorem ks_fig (T : Te) : tehd (rFig T).2 = tehd T ∧ teki (rFig T).2 = teki T ∧ teow (rFig T).2 = teow T := by
  unfold rFig
  cases dgt T <;> exact ⟨rfl, rfl, rfl⟩
theorem ks_own (T : Te) : tehd (rOwn T).2 = tehd T ∧ teki (rOwn T).2 = teki T := by
  unfold rOwn
  cases dgt T <;> exact ⟨rfl, rfl⟩
theorem ks_kind (i : Nat) (T : Te) : tehd (rKind i T).2 = tehd T := by
  unfold rKind
  split
  · split <;> rfl
  · rfl
theorem fig_vR {T : Te} {A : Md} (a : AR T A) (w : mwe A = true) (h : (rFig T).1 = true) : tefi (rFig T).2 = nI (mFig A 1).1 ∧ (mFig A 1).1 < 10 := by
  unfold rFig at h ⊢
  cases hd : dgt T with
  | none => rw [hd] at h; cases h
  | some x =>
    have e := ((fig1_R a w).2 x hd).1
    have := (dgt_lt hd).1
    rw [e]
    exact ⟨rfl, this⟩
theorem own_vR {T : Te} {A : Md} (a : AR T A) (w : mwe A = true) (h : (rOwn T).1 = true) : teow (rOwn T).2 = nI (mFig A 1).1 ∧ (mFig A 1).1 < 10 := by
  unfold rOwn at h ⊢
  cases hd : dgt T with
  | none => rw [hd] at h; cases h
  | some x =>
    have e := ((fig1_R a w).2 x hd).1
    have := (dgt_lt hd).1
    rw [e]
    exact ⟨rfl, this⟩
theorem fi_s3 (A : Md) : mfi (mExp (mS3 A) 59) = va_up (va_up (va_up (mfi A) 1 (mFig A 1).1) 2 (mFig (mSf A 1 1) 1).1) 3 (mFig (mExp (mSf (mSf A 1 1) 2 1) 44) 2).1 ∧ mso (mExp (mS3 A) 59) = mso A := by
  have e : mS3 A = mSf (mExp (mSf (mSf A 1 1) 2 1) 44) 3 2 := rfl
  rw [e, (fi_exp _ 59).1, (fi_exp _ 59).2, (fi_sf _ 3 2).1, (fi_sf _ 3 2).2, (fi_exp _ 44).1, (fi_exp _ 44).2, (fi_sf _ 2 1).1, (fi_sf _ 2 1).2, (fi_sf A 1 1).1, (fi_sf A 1 1).2]
  exact ⟨rfl, rfl⟩
theorem OFM_v {T : Te} {A : Md} (a : AR T A) (w : mwe A = true) (h : (rOFM T).1 = true) : tehd (rOFM T).2 = tehd T ∧ teki (rOFM T).2 = teki T ∧ F3 (rOFM T).2 (mExp (mS3 A) 59) := by
  have h0 := andT_tt (f := rOwn) (g := andT rFig (andT (rSign 44) (andT rMin (rSign 59)))) h
  obtain ⟨h1, e1, h⟩ := h0
  obtain ⟨a1, w1⟩ := CR_own.1 T A a w
  have e0 : rOFM T = andT rFig (andT (rSign 44) (andT rMin (rSign 59))) (rOwn T).2 := e1
  obtain ⟨h2, e2, h⟩ := andT_tt h
  obtain ⟨a2, w2⟩ := (CR_fig 2).1 _ _ a1 (w1.trans h1)
  obtain ⟨h3, e3, h⟩ := andT_tt h
  obtain ⟨a3, w3⟩ := (CR_sign 44).1 _ _ a2 (w2.trans h2)
  obtain ⟨h4, e4, h⟩ := andT_tt h
  have f1 := own_vR a w h1
  have f2 := fig_vR a1 (w1.trans h1) h2
  have f3 := (fig2_R a3 (w3.trans h3)).2.2 h4
  have k1 := ks_own T
  have k2 := ks_fig (rOwn T).2
  have k3 := ks_sign 44 (rFig (rOwn T).2).2
  have k4 := ks_min (rSign 44 (rFig (rOwn T).2).2).2
  have k5 := ks_sign 59 (rMin (rSign 44 (rFig (rOwn T).2).2).2).2
  rw [e0, e2, e3, e4]
  refine ⟨?_, ?_, ?_⟩
  · rw [k5.1, k4.1, k3.1, k2.1, k1.1]
  · rw [k5.2.1, k4.2.1, k3.2.1, k2.2.1, k1.2]
  · unfold F3
    rw [(fi_s3 A).1]
    refine ⟨?_, ?_, ?_, ?_, ?_, ?_⟩
    · rw [va_up_ne _ _ (by decide), va_up_ne _ _ (by decide), va_up_self, k5.2.2.1, k4.2.2.1, k3.2.2.1, k2.2.2]; exact f1.1
    · rw [va_up_ne _ _ (by decide), va_up_self, k5.2.2.2.1, k4.2.2.2, k3.2.2.2.1]; exact f2.1
    · rw [va_up_self, k5.2.2.2.2]; exact f3.1
    · rw [va_up_ne _ _ (by decide), va_up_ne _ _ (by decide), va_up_self]; exact f1.2
    · rw [va_up_ne _ _ (by decide), va_up_self]; exact f2.2
    · rw [va_up_self]; exact f3.2
def SF (Z : Te) (N : Md) : Prop := (tehd Z = 106 ∧ mso N = 0 ∧ F3 Z N) ∨ (tehd Z = 109 ∧ mso N = 1 ∧ teki Z = nI (mfi N 0) ∧ tefi Z = nI (mfi N 1) ∧ mfi N 0 < 6 ∧ mfi N 1 < 10) ∨ (tehd Z = 116 ∧ mso N = 2 ∧ teki Z = nI (mfi N 0) ∧ mfi N 0 < 6 ∧ F3 Z N)
theorem bg_oo (c : Nat) (hc : c < 256) : ooF bgF c 3 0 = if c = 106 then some 0 else if c = 109 then some 1 else if c = 116 then some 2 else none := by
  have e0 : bgF 0 = nI 106 := by decide
  have e1 : bgF 1 = nI 109 := by decide
  have e2 : bgF 2 = nI 116 := by decide
  have q0 : nI c = nI 106 ↔ c = 106 := nI_eq (by omega) (by decide)
  have q1 : nI c = nI 109 ↔ c = 109 := nI_eq (by omega) (by decide)
  have q2 : nI c = nI 116 ↔ c = 116 := nI_eq (by omega) (by decide)
  show (if nI c = bgF 0 then some 0 else if nI c = bgF 1 then some 1 else if nI c = bgF 2 then some 2 else none) = _
  rw [e0, e1, e2]
  simp only [q0, q1, q2]
theorem stm_R {T : Te} {M : Md} (h : AR T M) (w : mwe M = true) (tb : ∀ i, i < ten T → tele T i < 256) : AR (rSt T).2 (mStm M) ∧ mwe (mStm M) = (rSt T).1 ∧ ((rSt T).1 = true → SF (rSt T).2 (mStm M)) := by
  have dead : mOne M 3 bgF = (0, mAt M (mat' M) false) → (rSt T).1 = false → AR (rSt T).2 M → AR (rSt T).2 (mStm M) ∧ mwe (mStm M) = (rSt T).1 ∧ ((rSt T).1 = true → SF (rSt T).2 (mStm M)) := by
    intro e hf ha
    have d0 : DR (rSt T).2 (mS0 M) := by unfold mS0; rw [e]; exact ⟨ha, rfl⟩
    have s0 : mso (mS0 M) = 0 := by unfold mS0; rw [e]; rfl
    have em : mStm M = mExp (mS3 (mFf (mS0 M) 0 0)) 59 := by unfold mStm; rw [if_neg (by rw [s0]; decide), if_neg (by rw [s0]; decide)]
    have d1 := CR_OFM.2 (rSt T).2 (mFf (mS0 M) 0 0) d0
    rw [em, hf]
    exact ⟨d1.1, d1.2, fun q => by cases q⟩
  by_cases hp : tepl T < ten T
  · have hc := tb (tepl T) hp
    have hh : hdO T = tele T (tepl T) := by unfold hdO; rw [if_pos hp]
    have eo : mOne M 3 bgF = (match (if tele T (tepl T) = 106 then some 0 else if tele T (tepl T) = 109 then some 1 else if tele T (tepl T) = 116 then some 2 else none : Option Nat) with | some k => (k, mAt M (mat' M + 1) true) | none => (0, mAt M (mat' M) false)) := by
      unfold mOne
      rw [h.1, h.2.2, h.2.1, if_pos ⟨w, hp⟩, bg_oo _ hc]
      generalize (if tele T (tepl T) = 106 then some 0 else if tele T (tepl T) = 109 then some 1 else if tele T (tepl T) = 116 then some 2 else none : Option Nat) = z
      cases z <;> rfl
    by_cases c1 : tele T (tepl T) = 106
    · have er : rSt T = rOFM (teAdv (teH T 106)) := by unfold rSt; rw [hh, if_pos c1]
      rw [if_pos c1] at eo
      have e0 : mS0 M = mSs (mAt M (mat' M + 1) true) 0 := by unfold mS0; rw [eo]
      have em : mStm M = mExp (mS3 (mFf (mS0 M) 0 0)) 59 := by unfold mStm; rw [e0]; rfl
      have a0 : AR (teAdv (teH T 106)) (mFf (mS0 M) 0 0) := by rw [e0]; exact ⟨h.1, h.2.1, congrArg (· + 1) h.2.2⟩
      have w0 : mwe (mFf (mS0 M) 0 0) = true := by rw [e0]; rfl
      obtain ⟨a1, w1⟩ := CR_OFM.1 _ _ a0 w0
      rw [er, em]
      refine ⟨a1, w1, fun q => ?_⟩
      obtain ⟨v1, v2, v3⟩ := OFM_v a0 w0 q
      refine Or.inl ⟨v1, ?_, v3⟩
      rw [(fi_s3 _).2, e0]
      rfl
    · rw [if_neg c1] at eo
      by_cases c2 : tele T (tepl T) = 109
      · have er : rSt T = andT (rKind 0) (andT rFig (rSign 59)) (teAdv (teH T 109)) := by unfold rSt; rw [hh, if_neg c1, if_pos c2]
        rw [if_pos c2] at eo
        have e0 : mS0 M = mSs (mAt M (mat' M + 1) true) 1 := by unfold mS0; rw [eo]
        have em : mStm M = mExp (mSf (mS1 (mS0 M)) 1 1) 59 := by unfold mStm; rw [e0]; rfl
        have a0 : AR (teAdv (teH T 109)) (mS0 M) := by rw [e0]; exact ⟨h.1, h.2.1, congrArg (· + 1) h.2.2⟩
        have w0 : mwe (mS0 M) = true := by rw [e0]; rfl
        obtain ⟨a1, w1⟩ := (CR_and CR_ma (CR_and (CR_fig 1) (CR_sign 59))).1 _ _ a0 w0
        rw [er, em]
        refine ⟨a1, w1, fun q => ?_⟩
        obtain ⟨g1, g2, q⟩ := andT_tt q
        obtain ⟨g3, g4, q⟩ := andT_tt q
        obtain ⟨b1, b2⟩ := CR_ma.1 _ _ a0 w0
        have f0 := (one_R 0 maF ma_tx a0 w0).2.2 g1
        have f1 := fig_vR b1 (b2.trans g1) g3
        have k1 := ks_kind 0 (teAdv (teH T 109))
        have k2 := ks_fig (rKind 0 (teAdv (teH T 109))).2
        have k3 := ks_sign 59 (rFig (rKind 0 (teAdv (teH T 109))).2).2
        have m1 : mfi (mExp (mSf (mS1 (mS0 M)) 1 1) 59) = va_up (va_up (mfi (mOne (mS0 M) 6 maF).2) 0 (mOne (mS0 M) 6 maF).1) 1 (mFig (mS1 (mS0 M)) 1).1 := by
          rw [(fi_exp _ 59).1, (fi_sf _ 1 1).1]
          rfl
        have m2 : mso (mExp (mSf (mS1 (mS0 M)) 1 1) 59) = 1 := by
          rw [(fi_exp _ 59).2, (fi_sf _ 1 1).2]
          show mso (mOne (mS0 M) 6 maF).2 = 1
          rw [(fi_one _ 6 maF).2, e0]
          rfl
        refine Or.inr (Or.inl ?_)
        rw [g2, g4, m1, m2, k3.1, k2.1, k1, k3.2.1, k2.2.1, k3.2.2.2.1, va_up_self, va_up_ne _ _ (by decide), va_up_self]
        exact ⟨rfl, rfl, f0, f1.1, mOne_lt _ 6 maF (by decide), f1.2⟩
      · rw [if_neg c2] at eo
        by_cases c3 : tele T (tepl T) = 116
        · have er : rSt T = andT (rKind 1) rOFM (teAdv (teH T 116)) := by unfold rSt; rw [hh, if_neg c1, if_neg c2, if_pos c3]
          rw [if_pos c3] at eo
          have e0 : mS0 M = mSs (mAt M (mat' M + 1) true) 2 := by unfold mS0; rw [eo]
          have em : mStm M = mExp (mS3 (mS2 (mS0 M))) 59 := by unfold mStm; rw [e0]; rfl
          have a0 : AR (teAdv (teH T 116)) (mS0 M) := by rw [e0]; exact ⟨h.1, h.2.1, congrArg (· + 1) h.2.2⟩
          have w0 : mwe (mS0 M) = true := by rw [e0]; rfl
          obtain ⟨a1, w1⟩ := (CR_and CR_tk CR_OFM).1 _ _ a0 w0
          rw [er, em]
          refine ⟨a1, w1, fun q => ?_⟩
          obtain ⟨g1, g2, q⟩ := andT_tt q
          obtain ⟨b1, b2⟩ := CR_tk.1 _ _ a0 w0
          have f0 := (one_R 1 tkF tk_tx a0 w0).2.2 g1
          obtain ⟨v1, v2, v3⟩ := OFM_v b1 (b2.trans g1) q
          have k1 := ks_kind 1 (teAdv (teH T 116))
          have m1 : mfi (mExp (mS3 (mS2 (mS0 M))) 59) 0 = (mOne (mS0 M) 6 tkF).1 := by
            rw [(fi_s3 _).1, va_up_ne _ _ (by decide), va_up_ne _ _ (by decide), va_up_ne _ _ (by decide)]
            show va_up (mfi (mOne (mS0 M) 6 tkF).2) 0 (mOne (mS0 M) 6 tkF).1 0 = _
            exact va_up_self _ _ _
          have m2 : mso (mExp (mS3 (mS2 (mS0 M))) 59) = 2 := by
            rw [(fi_s3 _).2]
            show mso (mOne (mS0 M) 6 tkF).2 = 2
            rw [(fi_one _ 6 tkF).2, e0]
            rfl
          refine Or.inr (Or.inr ?_)
          rw [m1, m2, g2, v1, v2, k1]
          exact ⟨rfl, rfl, f0, mOne_lt _ 6 tkF (by decide), v3⟩
        · have er : rSt T = (false, teH T (hdO T)) := by unfold rSt; rw [hh, if_neg c1, if_neg c2, if_neg c3]
          rw [if_neg c3] at eo
          exact dead eo (by rw [er]) (by rw [er]; exact h)
  · have hh : hdO T = 0 := by unfold hdO; rw [if_neg hp]
    have er : rSt T = (false, teH T (hdO T)) := by unfold rSt; rw [hh, if_neg (by decide), if_neg (by decide), if_neg (by decide)]
    have eo : mOne M 3 bgF = (0, mAt M (mat' M) false) := by
      unfold mOne
      rw [h.2.2, h.2.1, if_neg (fun q => hp q.2)]
    exact dead eo (by rw [er]) (by rw [er]; exact h)
/-! the fields stay small -/
theorem fgL_lt (ta : Nat → Nat) (tn : Nat) : ∀ r v n p, r ≤ 2 → v < 10 ^ (2 - r) → (fgL ta tn r v n p).1 < 100
  | 0, v, n, p, _, h => h
  | r + 1, v, n, p, hr, h => by
    rw [fgL]
    have h2 : v < 100 := Nat.lt_of_lt_of_le h (Nat.pow_le_pow_right (j := 2) (by decide) (by omega))
    split
    · rename_i hc
      refine fgL_lt ta tn r _ _ _ (by omega) ?_
      have e : (10 : Nat) ^ (2 - r) = 10 * 10 ^ (2 - (r + 1)) := by
        rw [show 2 - r = (2 - (r + 1)) + 1 by omega, Nat.pow_succ, Nat.mul_comm]
      rw [e]
      omega
    · exact h2
theorem mFig_lt (M : Md) (r : Nat) (hr : r ≤ 2) : (mFig M r).1 < 100 := by
  unfold mFig
  cases mwe M with
  | false => exact (by decide : 0 < 100)
  | true => exact fgL_lt _ _ r 0 0 _ hr (Nat.pow_pos (by decide))
def MfR (M : Md) : Prop := ∀ k, k < 4 → mfi M k < 100
theorem up_lt {f : Nat → Nat} {n v : Nat} (h : ∀ k, k < 4 → f k < n) (hv : v < n) (i : Nat) : ∀ k, k < 4 → va_up f i v k < n := by
  intro k hk
  by_cases e : k = i
  · rw [e, va_up_self]; exact hv
  · rw [va_up_ne _ _ e]; exact h k hk
theorem MfR_stm {M : Md} (h : MfR M) : MfR (mStm M) ∧ mso (mStm M) < 3 := by
  have h0 : MfR (mS0 M) ∧ mso (mS0 M) < 3 := ⟨by unfold MfR mS0; rw [show mfi (mSs (mOne M 3 bgF).2 (mOne M 3 bgF).1) = mfi M from (fi_one M 3 bgF).1]; exact h, mOne_lt M 3 bgF (by decide)⟩
  have hs : ∀ A : Md, MfR A → MfR (mExp (mS3 A) 59) := by
    intro A hA
    unfold MfR
    rw [(fi_s3 A).1]
    exact up_lt (up_lt (up_lt hA (mFig_lt _ 1 (by decide)) 1) (mFig_lt _ 1 (by decide)) 2) (mFig_lt _ 2 (by decide)) 3
  unfold mStm
  split
  · rename_i hc
    refine ⟨?_, ?_⟩
    · unfold MfR
      rw [(fi_exp _ 59).1, (fi_sf _ 1 1).1]
      refine up_lt ?_ (mFig_lt _ 1 (by decide)) 1
      show ∀ k, k < 4 → va_up (mfi (mOne (mS0 M) 6 maF).2) 0 (mOne (mS0 M) 6 maF).1 k < 100
      rw [(fi_one _ 6 maF).1]
      exact up_lt h0.1 (Nat.lt_of_lt_of_le (mOne_lt _ 6 maF (by decide)) (by decide)) 0
    · rw [(fi_exp _ 59).2, (fi_sf _ 1 1).2]
      show mso (mOne (mS0 M) 6 maF).2 < 3
      rw [(fi_one _ 6 maF).2]
      exact h0.2
  · split
    · refine ⟨hs _ ?_, ?_⟩
      · unfold MfR
        show ∀ k, k < 4 → va_up (mfi (mOne (mS0 M) 6 tkF).2) 0 (mOne (mS0 M) 6 tkF).1 k < 100
        rw [(fi_one _ 6 tkF).1]
        exact up_lt h0.1 (Nat.lt_of_lt_of_le (mOne_lt _ 6 tkF (by decide)) (by decide)) 0
      · rw [(fi_s3 _).2]
        show mso (mOne (mS0 M) 6 tkF).2 < 3
        rw [(fi_one _ 6 tkF).2]
        exact h0.2
    · refine ⟨hs _ ?_, ?_⟩
      · exact up_lt h0.1 (by decide) 0
      · rw [(fi_s3 _).2]
        exact h0.2
