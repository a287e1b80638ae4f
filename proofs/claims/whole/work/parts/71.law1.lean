/-! ===== the law: rules of its own, the two objects side by side ===== -/
section LawR
variable {X : Cx} {cc : ByteArray} {own : String} {ret' : Option FieldType} {d mc ms : Nat} {pc : Nat} {L : List (Option Value)} {st rest : List Value} {h hc h0 h1 : List PCell} {kc ks b Ln : Nat} {xs : Nat → Int32} {μ : MI} {d' mc' ms' n : Nat} {as : List Value} {v : Int32}
theorem PW.slen (hX : Fx X cc own ret' d mc ms) (hL : LX X b Ln xs) (hd : decode cc pc = .ok (.arraylength, 1)) (kk : PW X (pc + 1) L (.int (nI Ln) :: st) h kc ks) : PW X pc L (.ref 1500 :: st) h kc ks := by
  obtain ⟨l1, l2, l3, l4, _⟩ := hL
  intro a H locs ls S
  have e : a 1500 = b := (S.2.2.2.1 1500 (Or.inr (by decide))).trans l4
  show WW X H locs kc ks pc ls (.ref (a 1500) :: st.map (tV a))
  rw [e]
  exact va_slen hX.x hX.b l1 l2 l3 S.2.2.1 hd (kk a H locs ls S)
theorem PW.sld (hX : Fx X cc own ret' d mc ms) (hL : LX X b Ln xs) {k : Nat} {j : Int32} (hk : k < Ln) (h31 : k < 2 ^ 31) (hd : decode cc pc = .ok (.iaload, 1)) (hj : j = nI k) (kk : PW X (pc + 1) L (.int (xs k) :: st) h kc ks) : PW X pc L (.int j :: .ref 1500 :: st) h kc ks := by
  obtain ⟨l1, l2, l3, l4, _⟩ := hL
  subst hj
  intro a H locs ls S
  have e : a 1500 = b := (S.2.2.2.1 1500 (Or.inr (by decide))).trans l4
  show WW X H locs kc ks pc ls (.int (nI k) :: .ref (a 1500) :: st.map (tV a))
  rw [e]
  refine va_sld hX.x hX.b l1 l2 l3 S.2.2.1 (i := nI k) ?_ hd ?_
  · unfold vp_in
    rw [nI_clamp h31]
    rintro (q | q)
    · exact nI_pos h31 q
    · omega
  · rw [nI_clamp h31]
    exact kk a H locs ls S
theorem PW.lret (hX : Fx X code RL ret 13 600000 7302250) (hL : LX X b Ln xs) (hd : decode code pc = .ok (.ireturn, 1)) (g1 : kc ≤ 600000) (g2 : ks ≤ 7302250) : PW X pc L [.int (nI 1)] h kc ks := by
  obtain ⟨l1, l2, l3, l4, l5, l6, l7, l8⟩ := hL
  intro a H locs ls S
  have hf : ∀ q ∈ locs, (cxs X).heap.size ≤ q.base := fun q hq => l8 _ (S.2.2.1.2.2 q hq)
  unfold WW
  rw [l5, l6, l7]
  refine W.widen g1 g2 (va_forget hf ?_)
  exact lw_ret hX.x hX.b hX.rt hX.lk hd
theorem PW.vG (hX : Fx X cc own ret' d mc ms) {idx ci i : Nat} {fs : List Value} {T : u_T} {N : Nat} (hm : MSV own idx μ n) (hM : PM μ d' mc' ms' as hc (eqP (some (.int v)) h0)) (hd : decode cc pc = .ok (.invokevirtual idx, 3))
    (ι : List Nat) (e1 : ι.map (fun i => h[i]?) = hc.map (fun c => some (rC (rho ι ι.length h.length) c))) (hst : st = (as.map (tV (rho ι ι.length h.length))).reverse ++ rest) (hob : (as.map (tV (rho ι ι.length h.length))).head? = some (.ref i)) (hn : as.length = n + 1) (he : h[i]? = some (.inr (ci, fs))) (hci : vwCl[ci]? = some (μ.1.cls, T, N))
    (hnd : va_nd ι = true) (hdd : Nat.blt d' d = true) (hcc : kc + mc' ≤ mc) (hss : ks + ms' ≤ ms) (hr : Nat.ble ((rest.map fun v => v.category).sum) 8 = true) (hok : okH ι.length h0 = true) (hsm : Nat.ble ι.length 1000 = true) (hl0 : h0.length = ι.length) (eh : updH h ι (h0.map (rC (rho ι ι.length h.length))) = h1)
    (kk : PW X (pc + 3) L (.int v :: rest) h1 (kc + mc') (ks + ms')) : PW X pc L st h kc ks := by
  refine PW.callV hX hm hM hd ι e1 hst hob hn he hci hnd hsm hdd (Nat.ble_eq.mpr hcc) (Nat.ble_eq.mpr hss) hr (fun r h' hr => ?_) (fun r h' hr => ?_)
  · obtain ⟨rfl, rfl⟩ := hr
    exact ⟨hl0, hok, rfl⟩
  · obtain ⟨rfl, rfl⟩ := hr
    rw [eh]
    exact kk
end LawR
def LH (W : Wp) (M : Md) : List PCell := wpB W ++ (mdB M).map (rC (fun i => i + 45))
def LI1 : List Nat := [0, 1, 2, 3, 4, 5, 6, 7, 8, 9, 10, 11, 12, 13, 14, 15, 16, 17, 18, 19, 20, 21, 22, 23, 24, 25, 26, 27, 28, 29, 30, 31, 32, 33, 34, 35, 36, 37, 38, 39, 40, 41, 42, 43, 44]
def LI2 : List Nat := [45, 46, 47, 48, 49, 50, 51, 52, 53, 54, 55, 56, 57, 58, 59, 60, 61]
theorem le_x (W : Wp) (M : Md) : LI1.map (fun i => (LH W M)[i]?) = (wpB W).map (fun c => some (rC (rho LI1 LI1.length (LH W M).length) c)) := rfl
theorem le_m (W : Wp) (M : Md) : LI2.map (fun i => (LH W M)[i]?) = (mdB M).map (fun c => some (rC (rho LI2 LI2.length (LH W M).length) c)) := rfl
theorem lh_x (W W' : Wp) (M : Md) : updH (LH W M) LI1 ((wpB W').map (rC (rho LI1 LI1.length (LH W M).length))) = LH W' M := updH_by2 (n := 62) (κ := LI2) (es := (mdB M).map (rC (fun i => i + 45))) rfl rfl (by decide) rfl rfl rfl (by decide +kernel)
theorem lh_m (W : Wp) (M M' : Md) : updH (LH W M) LI2 ((mdB M').map (rC (rho LI2 LI2.length (LH W M).length))) = LH W M' := updH_by2 (n := 62) (κ := LI1) (es := wpB W) rfl rfl (by decide) rfl rfl rfl (by decide +kernel)
/-- both objects answer the same, and are related behind it -/
def CS (μ ν : MI) (d e mc ms : Nat) (as : List Value) (W : Wp) (M : Md) : Prop := ∃ (r : Int32) (W' : Wp) (M' : Md), PM μ d 0 0 (.ref 0 :: as) (wpB W) (eqP (some (.int r)) (wpB W')) ∧ PM ν e mc ms (.ref 0 :: as) (mdB M) (eqP (some (.int r)) (mdB M')) ∧ Rel W' M'
theorem CS.of {μ ν : MI} {d e mc ms : Nat} {as : List Value} {W : Wp} {M : Md} {a : Int32 × Wp} {c : Int32 × Md} (h1 : PM μ d 0 0 (.ref 0 :: as) (wpB W) (eqP (some (.int a.1)) (wpB a.2))) (h2 : PM ν e mc ms (.ref 0 :: as) (mdB M) (eqP (some (.int c.1)) (mdB c.2))) (h : Sim a c) : CS μ ν d e mc ms as W M := ⟨a.1, a.2, c.2, h1, by rw [h.1]; exact h2, h.2⟩
theorem Rel.ln {W : Wp} {M : Md} (h : Rel W M) : mln M ≤ 20 ∧ ∀ i, i < mln M → mli M i < 100 := by
  obtain ⟨r1, r2, r3⟩ := h.2.2.2.2.1
  have w4 := h.1.2.2.2
  rw [← r1, ← r2]
  exact w4
theorem Rel.tx {W : Wp} {M : Md} (h : Rel W M) : mtn M ≤ 80 ∧ ∀ i, i < mtn M → mta M i < 256 := by
  obtain ⟨r1, r2⟩ := h.2.2.2.1
  have w3 := h.1.2.2.1
  rw [← r1, ← r2]
  exact w3
theorem Rel.b3 {W : Wp} {M : Md} (h : Rel W M) : ∀ j, j < 80 → mno M j < 1000 := fun j hj => Nat.lt_trans (h.2.1.2 j hj) (by decide)
theorem Rel.go {W : Wp} {M : Md} (h : Rel W M) : PM mu_X7_goTo 3 0 0 [.ref 0, .int (nI 99)] (mdB M) (eqP none (mdB (sC M (mA M)))) := pm_mgoTo M (wpP W) h.2.1.1 h.1.1 h.b3 99 (by decide)
theorem Rel.day {W : Wp} {M : Md} (h : Rel W M) : DyOk (wpP W) (dAll W) 100 ∧ DF (wpP W) (dAll W) 100 ∧ CRl (dAll W) (mA M) ∧ DIn (wpP W) (dAll W) := by
  have zr := zRun_R h.2.1.1 h.1.1 (wpY W) M.2.2.1 100 (Nat.le_refl _)
  exact ⟨dRun_ok h.1.1 (wpY W) 100 (Nat.le_refl _), dRun_DF h.1.1 (wpY W) 100 (Nat.le_refl _), zr.2.1, zr.2.2.2.2⟩
theorem cs_letter {W : Wp} {M : Md} (h : Rel W M) (x : Int32) : CS mu_X6_letter mu_X7_letter 1 1 0 0 [.int x] W M := CS.of (pm_letter W h.1 x) (pm_mletter M h.tx.1 x) (sim_letter h x)
theorem cs_floor {W : Wp} {M : Md} (h : Rel W M) : CS mu_X6_floor mu_X7_floor 7 3 0 0 [] W M := CS.of (pm_floor W h.1) (pm_mfloor M h.tx h.2.2.2.2.2.2 h.mr.1 h.mr.2.1) (sim_floor h)
theorem cs_job {W : Wp} {M : Md} (h : Rel W M) (x : Int32) (y : Int32) : CS mu_X6_job mu_X7_job 1 1 0 0 [.int x, .int y] W M := CS.of (pm_job W h.1 x y) (pm_mjob M h.mr x y) (sim_job h x y)
theorem cs_taker {W : Wp} {M : Md} (h : Rel W M) (x : Int32) (y : Int32) : CS mu_X6_taker mu_X7_taker 1 1 0 0 [.int x, .int y] W M := CS.of (pm_taker W h.1 x y) (pm_mtaker M h.mr x y) (sim_taker h x y)
theorem cs_sent {W : Wp} {M : Md} (h : Rel W M) (x : Int32) (y : Int32) : CS mu_X6_sent mu_X7_sent 1 2 0 0 [.int x, .int y] W M := CS.of (pm_sent W h.1 x y) (pm_msent M h.mr x y) (sim_sent h x y)
theorem cs_machine {W : Wp} {M : Md} (h : Rel W M) (x : Int32) (y : Int32) : CS mu_X6_machine mu_X7_machine 2 2 0 0 [.int x, .int y] W M := CS.of (pm_machine W x y) (pm_mmachine M h.mr x y) (sim_machine h x y)
theorem cs_comes {W : Wp} {M : Md} (h : Rel W M) (x : Int32) (y : Int32) : CS mu_X6_comes mu_X7_comes 1 2 0 0 [.int x, .int y] W M := CS.of (pm_comes W h.1 x y) (pm_mcomes M h.mr x y) (sim_comes h x y)
theorem cs_out {W : Wp} {M : Md} (h : Rel W M) (x : Int32) (y : Int32) : CS mu_X6_out mu_X7_out 8 4 0 0 [.int x, .int y] W M := CS.of (pm_out W h.1 x y) (pm_mout M (mA M) (wpP W) (dAll W) h.2.1.1 h.1.1 h.day.1 h.day.2.1 h.day.2.2.1 h.day.2.2.2 h.2.1.2 h.go x y) (sim_out h (mA M) x y)
theorem cs_outMany {W : Wp} {M : Md} (h : Rel W M) : CS mu_X6_outMany mu_X7_outMany 8 4 0 0 [] W M := CS.of (pm_outMany W h.1) (pm_moutMany M (mA M) (wpP W) (dAll W) h.2.1.1 h.1.1 h.day.1 h.day.2.1 h.day.2.2.1 h.day.2.2.2 h.2.1.2 h.go) (sim_outMany h (mA M))
theorem cs_held {W : Wp} {M : Md} (h : Rel W M) (x : Int32) (y : Int32) : CS mu_X6_held mu_X7_held 8 4 0 0 [.int x, .int y] W M := CS.of (pm_held W h.1 x y) (pm_mheld M (mA M) (wpP W) (dAll W) h.2.1.1 h.1.1 h.day.1 h.day.2.1 h.day.2.2.1 h.day.2.2.2 h.2.1.2 h.go x y) (sim_held h (mA M) x y)
theorem cs_who {W : Wp} {M : Md} (h : Rel W M) (x : Int32) : CS mu_X6_who mu_X7_who 8 4 0 0 [.int x] W M := CS.of (pm_who W h.1 x) (pm_mwho M (mA M) (wpP W) (dAll W) h.2.1.1 h.1.1 h.day.1 h.day.2.1 h.day.2.2.1 h.day.2.2.2 h.2.1.2 h.go x) (sim_who h (mA M) x)
theorem cs_missing {W : Wp} {M : Md} (h : Rel W M) (x : Int32) : CS mu_X6_missing mu_X7_missing 8 4 0 0 [.int x] W M := CS.of (pm_missing W h.1 x) (pm_mmissing M (mA M) (wpP W) (dAll W) h.2.1.1 h.1.1 h.day.1 h.day.2.1 h.day.2.2.1 h.day.2.2.2 h.2.1.2 h.go x) (sim_missing h (mA M) x)
theorem cs_ask {W : Wp} {M : Md} (h : Rel W M) (x : Int32) : CS mu_X6_ask mu_X7_ask 8 4 0 0 [.int x] W M := CS.of (pm_ask W h.1 x) (pm_mask M (mA M) (wpP W) (dAll W) h.2.1.1 h.1.1 h.day.1 h.day.2.1 h.day.2.2.1 h.day.2.2.2 h.2.1.2 h.go x) (sim_ask h (mA M) x)
theorem cs_ready {W : Wp} {M : Md} (h : Rel W M) (x : Int32) : CS mu_X6_ready mu_X7_ready 9 5 0 0 [.int x] W M := CS.of (pm_ready W h.1 x) (pm_mready M (mA M) (wpP W) (dAll W) h.2.1.1 h.1.1 h.day.1 h.day.2.1 h.day.2.2.1 h.day.2.2.2 h.2.1.2 h.go x) (sim_ready h (mA M) x)
theorem cs_mixed {W : Wp} {M : Md} (h : Rel W M) : CS mu_X6_mixed mu_X7_mixed 6 4 0 0 [] W M := CS.of (pm_mixed W h.1) (pm_mmx M (wpP W) h.2.1.1 h.1.1 h.2.1.2) (sim_mixed h (mA M))
theorem cs_byKind {W : Wp} {M : Md} (h : Rel W M) : CS mu_X6_byKind mu_X7_byKind 6 5 0 0 [] W M := by
  have cx := pm_byKind W h.1
  have cm := pm_mbyKind M (wpP W) h.2.1.1 h.1.1 h.2.1.2
  have sm := sim_byKind h (bkC M 6)
  generalize (amn (bkG (wpP W)) 6).1 = g at cm sm
  generalize bkC M 6 = C at cm sm
  generalize wByKind W = a at cx sm
  exact CS.of (c := (nI g, sC M C)) cx cm sm
theorem cs_send {W : Wp} {M : Md} (h : Rel W M) (x : Int32) (y : Int32) : CS mu_X6_send mu_X7_send 6 5 0 0 [.int x, .int y] W M := CS.of (pm_send W h.1 x y) (pm_msend M (wpP W) h.2.1.1 h.1.1 h.2.1.2 x y) (sim_send h x y)
theorem cs_two {W : Wp} {M : Md} (h : Rel W M) (x : Int32) (y : Int32) : CS mu_X6_two mu_X7_two 3 1 0 0 [.int x, .int y] W M := CS.of (pm_two W h.1 x y) (pm_mtwo M (wpP W) h.2.1.1 h.1.1 h.ln.1 h.ln.2 x y) (sim_two h x y)
theorem cs_three {W : Wp} {M : Md} (h : Rel W M) (x : Int32) (y : Int32) (u : Int32) : CS mu_X6_three mu_X7_three 3 1 0 0 [.int x, .int y, .int u] W M := CS.of (pm_three W h.1 x y u) (pm_mthree M (wpP W) h.2.1.1 h.1.1 h.ln.1 h.ln.2 x y u) (sim_three h x y u)
theorem cs_parts {W : Wp} {M : Md} (h : Rel W M) : CS mu_X6_parts mu_X7_parts 2 1 1 20 [] W M := CS.of (pm_parts W h.1) (pm_mparts M h.ln.1 h.ln.2) (sim_parts h)
theorem cs_lacks {W : Wp} {M : Md} (h : Rel W M) (x : Int32) : CS mu_X6_lacks mu_X7_lacks 2 1 0 0 [.int x] W M := CS.of (pm_lacks W h.1 x) (pm_mlacks M (wpP W) h.2.1.1 h.1.1 h.ln.1 h.ln.2 x) (sim_lacks h x)
theorem cs_laps {W : Wp} {M : Md} (h : Rel W M) (x : Int32) : CS mu_X6_laps mu_X7_laps 3 1 0 0 [.int x] W M := CS.of (pm_laps W h.1 x) (pm_mlaps M h.ln.1 h.ln.2 x) (sim_laps h x)
theorem cs_waits {W : Wp} {M : Md} (h : Rel W M) (x : Int32) (y : Int32) (u : Int32) : CS mu_X6_waits mu_X7_waits_ 9 5 0 0 [.int x, .int y, .int u] W M := CS.of (pm_waits W h.1 x y u) (pm_mwaits M (mA M) (wpP W) (dAll W) h.2.1.1 h.1.1 h.day.1 h.day.2.1 h.day.2.2.1 h.day.2.2.2 h.2.1.2 h.go x y u) (sim_waits h (mA M) x y u)
theorem cs_vain {W : Wp} {M : Md} (h : Rel W M) (x : Int32) (y : Int32) (u : Int32) : CS mu_X6_vain mu_X7_vain 9 5 0 0 [.int x, .int y, .int u] W M := CS.of (pm_vain W h.1 x y u) (pm_mvain M (mA M) (wpP W) (dAll W) h.2.1.1 h.1.1 h.day.1 h.day.2.1 h.day.2.2.1 h.day.2.2.2 h.2.1.2 h.go x y u) (sim_vain h (mA M) x y u)
theorem cs_seen {W : Wp} {M : Md} (h : Rel W M) (x : Int32) : CS mu_X6_seen mu_X7_seen 8 4 0 0 [.int x] W M := CS.of (pm_seen W h.1 x) (pm_mseen M (wpP W) (wpY W) h.2.1.1 h.1.1 h.2.1.2 h.ln.1 h.ln.2 x) (sim_seen h x)
theorem cs_row {W : Wp} {M : Md} (h : Rel W M) (x : Int32) : CS mu_X6_row mu_X7_row 1 1 0 0 [.int x] W M := CS.of (pm_row W h.1 x) (pm_mrow M h.ln.1 x) (sim_row h x)
theorem cs_judge {W : Wp} {M : Md} (h : Rel W M) : CS mu_X6_judge mu_X7_judge 8 4 0 0 [] W M := CS.of (pm_judge W h.1) (pm_mjudge M (mA M) (wpP W) (dAll W) h.2.1.1 h.1.1 h.day.1 h.day.2.1 h.day.2.2.1 h.day.2.2.2 h.2.1.2 h.go h.ln.1 h.ln.2) (sim_judge h (mA M))
theorem cs_lots {W : Wp} {M : Md} (h : Rel W M) (x : Int32) (y : Int32) : CS mu_X6_lots mu_X7_lots 6 5 1 6 [.int x, .int y] W M := CS.of (pm_lots W h.1 x y) (pm_mlots M (wpP W) h.2.1.1 h.1.1 h.2.1.2 x y) (sim_lots h x y)
theorem cs_image {W : Wp} {M : Md} (h : Rel W M) : CS mu_X6_image mu_X7_image 2 0 0 0 [] W M := CS.of (pm_image W) (pm_mimage M) (sim_image h)
theorem cs_on {W : Wp} {M : Md} (h : Rel W M) : CS mu_X6_on mu_X7_on 2 1 0 0 [] W M := CS.of (pm_on W) (pm_mon M) (sim_on h)
theorem cs_count {W : Wp} {M : Md} (h : Rel W M) (x : Int32) : CS mu_X6_count mu_X7_count 1 1 0 0 [.int x] W M := CS.of ((pm_count W h.1 x : PM _ _ _ _ _ _ (eqP (some (.int (wCount W x, W).1)) (wpB (wCount W x, W).2)))) ((pm_mcount M (wpP W) h.2.1.1 h.1.1 x : PM _ _ _ _ _ _ (eqP (some (.int (qCount M (wpP W) x, M).1)) (mdB (qCount M (wpP W) x, M).2)))) ((⟨sim_count h x, h⟩ : Sim (wCount W x, W) (qCount M (wpP W) x, M)))
theorem cs_lies {W : Wp} {M : Md} (h : Rel W M) (x y : Int32) : CS mu_X6_lies mu_X7_lies 8 4 0 0 [.int x, .int y] W M := by
  by_cases hk : ¬ x < 0 ∧ ¬ nI 100 ≤ x
  · obtain ⟨k, hk31, rfl⟩ := nI_of hk.1
    have k1 : k < 100 := (nI_ltI hk31 (by decide)).mp (i32_nle.mp hk.2)
    have ec : (nI k).toNatClampNeg = k := nI_clamp hk31
    have zr := zRun_R h.2.1.1 h.1.1 (wpY W) M.2.2.1 (k + 1) (by omega)
    have dk := dRun_ok h.1.1 (wpY W) (k + 1) (by omega)
    have sm := sim_lies h (zRun (mno M) M.2.2.1 (k + 1)).1 (nI k) y
    have cx := pm_lies W h.1 (nI k) y
    rw [ec] at sm
    exact CS.of cx (pm_mlies M (zRun (mno M) M.2.2.1 (k + 1)).1 (dTo W k) dk.2.1.1 zr.2.1 (nI k) y (fun _ _ => pm_mgoTo M (wpP W) h.2.1.1 h.1.1 h.b3 k k1)) sm
  · have dk0 := (dBeg_ok (wpP W) dyZ).2.1.1
    have sm := sim_lies h (zBeg (mno M) M.2.2.1).1 x y
    have cm := pm_mlies M (zBeg (mno M) M.2.2.1).1 (dBeg (wpP W) dyZ) dk0 (zBeg_R h.2.1.1 h.1.1 dyZ M.2.2.1).2.1 x y (fun a b => absurd ⟨a, b⟩ hk)
    have e : qLies (dBeg (wpP W) dyZ) M (sC M (zBeg (mno M) M.2.2.1).1) x y = qLies (dTo W x.toNatClampNeg) M (sC M (zBeg (mno M) M.2.2.1).1) x y := by
      unfold qLies
      by_cases a : x < 0 ∨ y < -1
      · rw [if_pos a, if_pos a]
      · rw [if_neg a, if_neg a]
        by_cases c : nI 100 ≤ x
        · rw [if_pos c, if_pos c]
        · exact absurd ⟨fun q => a (Or.inl q), c⟩ hk
    rw [e] at cm
    exact CS.of (pm_lies W h.1 x y) cm sm
