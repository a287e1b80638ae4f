/-! calls whose answer and cells are known -/
def eqP (r0 : Option Value) (h0 : List PCell) : Option Value → List PCell → Prop := fun r h => r = r0 ∧ h = h0
theorem iincN (i : Nat) : nI i + Int32.ofInt 1 = nI (i + 1) := nI_1 i
theorem updH_self : ∀ (is : List Nat) (cs h : List PCell), is.map (fun i => h[i]?) = cs.map some → updH h is cs = h
  | [], cs, h, _ => by simp [updH]
  | i :: is, [], h, _ => by simp [updH]
  | i :: is, c :: cs, h, e => by
    simp only [List.map_cons, List.cons.injEq] at e
    have h1 : h.set i c = h := by
      apply List.ext_getElem?
      intro j
      rw [List.getElem?_set]
      by_cases hij : i = j
      · subst hij
        rw [if_pos rfl, e.1]
        simp [(List.getElem?_eq_some_iff.mp e.1).1]
      · rw [if_neg hij]
    rw [updH, h1]
    exact updH_self is cs h e.2
section Calls2
variable {X : Cx} {cc : ByteArray} {own : String} {ret : Option FieldType} {d mc ms : Nat} {pc : Nat} {L : List (Option Value)} {st rest : List Value} {h hc h0 h1 : List PCell} {kc ks : Nat} {μ : MI} {d' n : Nat} {as : List Value} {v : Int32}
/-- a virtual call that answers an int and leaves its cells -/
theorem PW.vR (hX : Fx X cc own ret d mc ms) {idx ci i : Nat} {fs : List Value} {T : u_T} {N : Nat} (hm : MSV own idx μ n) (hM : PM μ d' 0 0 as hc (eqP (some (.int v)) hc)) (hd : decode cc pc = .ok (.invokevirtual idx, 3))
    (ι : List Nat) (e1 : ι.map (fun i => h[i]?) = hc.map (fun c => some (rC (rho ι ι.length h.length) c))) (hst : st = (as.map (tV (rho ι ι.length h.length))).reverse ++ rest) (hob : (as.map (tV (rho ι ι.length h.length))).head? = some (.ref i)) (hn : as.length = n + 1) (he : h[i]? = some (.inr (ci, fs))) (hci : vwCl[ci]? = some (μ.1.cls, T, N))
    (hnd : va_nd ι = true) (hdd : Nat.blt d' d = true) (hcc : Nat.ble kc mc = true) (hss : Nat.ble ks ms = true) (hr : Nat.ble ((rest.map fun v => v.category).sum) 8 = true) (hok : okH ι.length hc = true) (hsm : Nat.ble ι.length 1000 = true)
    (kk : PW X (pc + 3) L (.int v :: rest) h kc ks) : PW X pc L st h kc ks := by
  refine PW.callV hX hm hM hd ι e1 hst hob hn he hci hnd hsm hdd hcc hss hr (fun r h' hr => ?_) (fun r h' hr => ?_)
  · obtain ⟨rfl, rfl⟩ := hr
    exact ⟨(pick_at e1).1.symm, hok, rfl⟩
  · obtain ⟨rfl, rfl⟩ := hr
    rw [updH_self ι _ h (by rw [e1, List.map_map]; rfl)]
    exact kk
theorem PW.vI (hX : Fx X cc own ret d mc ms) {idx ci i : Nat} {fs : List Value} {T : u_T} {N : Nat} (hm : MSV own idx μ n) (hM : PM μ d' 0 0 as hc (eqP (some (.int v)) h0)) (hd : decode cc pc = .ok (.invokevirtual idx, 3))
    (ι : List Nat) (e1 : ι.map (fun i => h[i]?) = hc.map (fun c => some (rC (rho ι ι.length h.length) c))) (hst : st = (as.map (tV (rho ι ι.length h.length))).reverse ++ rest) (hob : (as.map (tV (rho ι ι.length h.length))).head? = some (.ref i)) (hn : as.length = n + 1) (he : h[i]? = some (.inr (ci, fs))) (hci : vwCl[ci]? = some (μ.1.cls, T, N))
    (hnd : va_nd ι = true) (hdd : Nat.blt d' d = true) (hcc : Nat.ble kc mc = true) (hss : Nat.ble ks ms = true) (hr : Nat.ble ((rest.map fun v => v.category).sum) 8 = true) (hok : okH ι.length h0 = true) (hsm : Nat.ble ι.length 1000 = true) (hl0 : h0.length = ι.length) (eh : updH h ι (h0.map (rC (rho ι ι.length h.length))) = h1)
    (kk : PW X (pc + 3) L (.int v :: rest) h1 kc ks) : PW X pc L st h kc ks := by
  refine PW.callV hX hm hM hd ι e1 hst hob hn he hci hnd hsm hdd hcc hss hr (fun r h' hr => ?_) (fun r h' hr => ?_)
  · obtain ⟨rfl, rfl⟩ := hr
    exact ⟨hl0, hok, rfl⟩
  · obtain ⟨rfl, rfl⟩ := hr
    rw [eh]
    exact kk
theorem PW.vV (hX : Fx X cc own ret d mc ms) {idx ci i : Nat} {fs : List Value} {T : u_T} {N : Nat} (hm : MSV own idx μ n) (hM : PM μ d' 0 0 as hc (eqP none h0)) (hd : decode cc pc = .ok (.invokevirtual idx, 3))
    (ι : List Nat) (e1 : ι.map (fun i => h[i]?) = hc.map (fun c => some (rC (rho ι ι.length h.length) c))) (hst : st = (as.map (tV (rho ι ι.length h.length))).reverse ++ rest) (hob : (as.map (tV (rho ι ι.length h.length))).head? = some (.ref i)) (hn : as.length = n + 1) (he : h[i]? = some (.inr (ci, fs))) (hci : vwCl[ci]? = some (μ.1.cls, T, N))
    (hnd : va_nd ι = true) (hdd : Nat.blt d' d = true) (hcc : Nat.ble kc mc = true) (hss : Nat.ble ks ms = true) (hr : Nat.ble ((rest.map fun v => v.category).sum) 8 = true) (hok : okH ι.length h0 = true) (hsm : Nat.ble ι.length 1000 = true) (hl0 : h0.length = ι.length) (eh : updH h ι (h0.map (rC (rho ι ι.length h.length))) = h1)
    (kk : PW X (pc + 3) L rest h1 kc ks) : PW X pc L st h kc ks := by
  refine PW.callV hX hm hM hd ι e1 hst hob hn he hci hnd hsm hdd hcc hss hr (fun r h' hr => ?_) (fun r h' hr => ?_)
  · obtain ⟨rfl, rfl⟩ := hr
    exact ⟨hl0, hok, rfl⟩
  · obtain ⟨rfl, rfl⟩ := hr
    rw [eh]
    exact kk
/-- static calls of functions of ints (no cells) -/
theorem PW.sR (hX : Fx X cc own ret d mc ms) {idx : Nat} (hm : MSS own idx μ n) (hM : PM μ d' 0 0 as [] (eqP (some (.int v)) [])) (hd : decode cc pc = .ok (.invokestatic idx, 3))
    (hst : st = (as.map (tV (rho [] 0 h.length))).reverse ++ rest) (hn : as.length = n) (hdd : Nat.blt d' d = true) (hcc : Nat.ble kc mc = true) (hss : Nat.ble ks ms = true) (hr : Nat.ble ((rest.map fun v => v.category).sum) 8 = true)
    (kk : PW X (pc + 3) L (.int v :: rest) h kc ks) : PW X pc L st h kc ks := by
  refine PW.callS hX hm hM hd [] rfl hst hn rfl rfl hdd hcc hss hr (fun r h' hr => ?_) (fun r h' hr => ?_)
  · obtain ⟨rfl, rfl⟩ := hr
    exact ⟨rfl, rfl, rfl⟩
  · obtain ⟨rfl, rfl⟩ := hr
    exact kk
theorem PW.nR (hX : Fx X cc own ret d mc ms) {idx : Nat} (hm : MNS own idx μ n) (hM : PM μ d' 0 0 as [] (eqP (some (.int v)) [])) (hd : decode cc pc = .ok (.invokestatic idx, 3))
    (hst : st = (as.map (tV (rho [] 0 h.length))).reverse ++ rest) (hn : as.length = n) (hdd : Nat.blt d' d = true) (hcc : Nat.ble kc mc = true) (hss : Nat.ble ks ms = true) (hr : Nat.ble ((rest.map fun v => v.category).sum) 8 = true)
    (kk : PW X (pc + 3) L (.int v :: rest) h kc ks) : PW X pc L st h kc ks := by
  refine PW.callN hX hm hM hd [] rfl hst hn rfl rfl hdd hcc hss hr (fun r h' hr => ?_) (fun r h' hr => ?_)
  · obtain ⟨rfl, rfl⟩ := hr
    exact ⟨rfl, rfl, rfl⟩
  · obtain ⟨rfl, rfl⟩ := hr
    exact kk
/-- a static void call -/
theorem PW.sV (hX : Fx X cc own ret d mc ms) {idx : Nat} (hm : MSS own idx μ n) (hM : PM μ d' 0 0 as hc (eqP none h0)) (hd : decode cc pc = .ok (.invokestatic idx, 3))
    (ι : List Nat) (e1 : ι.map (fun i => h[i]?) = hc.map (fun c => some (rC (rho ι ι.length h.length) c))) (hst : st = (as.map (tV (rho ι ι.length h.length))).reverse ++ rest) (hn : as.length = n)
    (hnd : va_nd ι = true) (hdd : Nat.blt d' d = true) (hcc : Nat.ble kc mc = true) (hss : Nat.ble ks ms = true) (hr : Nat.ble ((rest.map fun v => v.category).sum) 8 = true) (hok : okH ι.length h0 = true) (hsm : Nat.ble ι.length 1000 = true) (hl0 : h0.length = ι.length) (eh : updH h ι (h0.map (rC (rho ι ι.length h.length))) = h1)
    (kk : PW X (pc + 3) L rest h1 kc ks) : PW X pc L st h kc ks := by
  refine PW.callS hX hm hM hd ι e1 hst hn hnd hsm hdd hcc hss hr (fun r h' hr => ?_) (fun r h' hr => ?_)
  · obtain ⟨rfl, rfl⟩ := hr
    exact ⟨hl0, hok, rfl⟩
  · obtain ⟨rfl, rfl⟩ := hr
    rw [eh]
    exact kk
end Calls2
