/-! calls over large heaps: what comes back is said by places; and calls over the whole heap -/
theorem updH_by {h h1 cs : List PCell} {ι κ : List Nat} {n : Nat} (hn : h.length = n) (hn1 : h1.length = n) (hnd : va_nd ι = true) (ea : ι.map (fun i => h1[i]?) = cs.map some) (ec : κ.map (fun j => h1[j]?) = κ.map (fun j => h[j]?)) (ek : (List.range n).all (fun j => ι.elem j || κ.elem j) = true) : updH h ι cs = h1 := by
  apply List.ext_getElem?
  intro j
  by_cases hj : j < n
  · by_cases hi : j ∈ ι
    · obtain ⟨k, hk⟩ := List.getElem?_of_mem hi
      have h2 : (ι.map (fun i => h1[i]?))[k]? = some (h1[j]?) := by simp [hk]
      rw [ea, List.getElem?_map, Option.map_eq_some_iff] at h2
      obtain ⟨c, h3, h4⟩ := h2
      rw [updH_in ι cs h k j c hnd hk h3 (by omega), ← h4]
    · rw [updH_out ι cs h j hi]
      have h2 := List.all_eq_true.mp ek j (List.mem_range.mpr hj)
      simp only [Bool.or_eq_true, List.elem_eq_mem, decide_eq_true_eq] at h2
      have h3 : j ∈ κ := h2.resolve_left hi
      obtain ⟨k, hk⟩ := List.getElem?_of_mem h3
      have h4 : (κ.map (fun j => h1[j]?))[k]? = some (h1[j]?) := by simp [hk]
      rw [ec] at h4
      simp [hk] at h4
      exact h4
  · rw [List.getElem?_eq_none (by rw [updH_len]; omega), List.getElem?_eq_none (by omega)]
theorem rC_id {n : Nat} {c : PCell} (hc : okC n c = true) (hn : n ≤ 1000) : rC (rho (List.range n) n n) c = c := by
  have hρ : ∀ i, i < n ∨ 1000 ≤ i → rho (List.range n) n n i = i := by
    intro i hi
    rcases hi with h | h
    · exact rho_in h (by simp [h])
    · exact rho_hi hn h
  rcases c with ⟨t, k, f⟩ | ⟨ci, fs⟩
  · rfl
  · simp only [rC]
    congr 2
    have : ∀ v ∈ fs, tV (rho (List.range n) n n) v = v := by
      intro v hv
      have h1 := List.all_eq_true.mp hc v hv
      cases v <;> first | rfl | skip
      rename_i i
      simp only [okV, Bool.or_eq_true, Nat.blt_eq, Nat.ble_eq] at h1
      show Value.ref (rho (List.range n) n n i) = _
      rw [hρ i h1]
    exact (List.map_congr_left this).trans (List.map_id _)
theorem tV_id {n : Nat} {v : Value} (hc : okV n v = true) (hn : n ≤ 1000) : tV (rho (List.range n) n n) v = v := by
  cases v <;> first | rfl | skip
  rename_i i
  simp only [okV, Bool.or_eq_true, Nat.blt_eq, Nat.ble_eq] at hc
  show Value.ref (rho (List.range n) n n i) = _
  rcases hc with h | h
  · rw [rho_in (j := i) h (by simp [h])]
  · rw [rho_hi hn h]
theorem nd_range : ∀ n, va_nd (List.range n) = true := by
  intro n
  have : ∀ l : List Nat, l.Nodup → va_nd l = true := by
    intro l
    induction l with
    | nil => intro _; rfl
    | cons a l ih =>
      intro h
      rw [List.nodup_cons] at h
      simp only [va_nd, Bool.and_eq_true, decide_eq_true_eq]
      exact ⟨h.1, ih h.2⟩
  exact this _ List.nodup_range
section Calls3
variable {X : Cx} {cc : ByteArray} {own : String} {ret : Option FieldType} {d mc ms : Nat} {pc : Nat} {L : List (Option Value)} {st rest : List Value} {h hc h0 h1 : List PCell} {kc ks : Nat} {μ : MI} {d' n : Nat} {as : List Value} {v : Int32} {Φ : Option Value → List PCell → Prop}
theorem PW.vI2 (hX : Fx X cc own ret d mc ms) {idx ci i : Nat} {fs : List Value} {T : u_T} {N : Nat} (hm : MSV own idx μ n) (hM : PM μ d' 0 0 as hc (eqP (some (.int v)) h0)) (hd : decode cc pc = .ok (.invokevirtual idx, 3))
    (ι κ : List Nat) (M : Nat) (e1 : ι.map (fun i => h[i]?) = hc.map (fun c => some (rC (rho ι ι.length h.length) c))) (hst : st = (as.map (tV (rho ι ι.length h.length))).reverse ++ rest) (hob : (as.map (tV (rho ι ι.length h.length))).head? = some (.ref i)) (hn : as.length = n + 1) (he : h[i]? = some (.inr (ci, fs))) (hci : vwCl[ci]? = some (μ.1.cls, T, N))
    (hnd : va_nd ι = true) (hdd : Nat.blt d' d = true) (hcc : Nat.ble kc mc = true) (hss : Nat.ble ks ms = true) (hr : Nat.ble ((rest.map fun v => v.category).sum) 8 = true) (hok : okH ι.length h0 = true) (hsm : Nat.ble ι.length 1000 = true) (hl0 : h0.length = ι.length)
    (hnM : h.length = M) (hnM1 : h1.length = M) (ea : ι.map (fun i => h1[i]?) = h0.map (fun c => some (rC (rho ι ι.length h.length) c))) (ec : κ.map (fun j => h1[j]?) = κ.map (fun j => h[j]?)) (ek : (List.range M).all (fun j => ι.elem j || κ.elem j) = true)
    (kk : PW X (pc + 3) L (.int v :: rest) h1 kc ks) : PW X pc L st h kc ks :=
  PW.vI hX hm hM hd ι e1 hst hob hn he hci hnd hdd hcc hss hr hok hsm hl0 (updH_by hnM hnM1 hnd (by rw [ea, List.map_map]; rfl) ec ek) kk
theorem PW.vV2 (hX : Fx X cc own ret d mc ms) {idx ci i : Nat} {fs : List Value} {T : u_T} {N : Nat} (hm : MSV own idx μ n) (hM : PM μ d' 0 0 as hc (eqP none h0)) (hd : decode cc pc = .ok (.invokevirtual idx, 3))
    (ι κ : List Nat) (M : Nat) (e1 : ι.map (fun i => h[i]?) = hc.map (fun c => some (rC (rho ι ι.length h.length) c))) (hst : st = (as.map (tV (rho ι ι.length h.length))).reverse ++ rest) (hob : (as.map (tV (rho ι ι.length h.length))).head? = some (.ref i)) (hn : as.length = n + 1) (he : h[i]? = some (.inr (ci, fs))) (hci : vwCl[ci]? = some (μ.1.cls, T, N))
    (hnd : va_nd ι = true) (hdd : Nat.blt d' d = true) (hcc : Nat.ble kc mc = true) (hss : Nat.ble ks ms = true) (hr : Nat.ble ((rest.map fun v => v.category).sum) 8 = true) (hok : okH ι.length h0 = true) (hsm : Nat.ble ι.length 1000 = true) (hl0 : h0.length = ι.length)
    (hnM : h.length = M) (hnM1 : h1.length = M) (ea : ι.map (fun i => h1[i]?) = h0.map (fun c => some (rC (rho ι ι.length h.length) c))) (ec : κ.map (fun j => h1[j]?) = κ.map (fun j => h[j]?)) (ek : (List.range M).all (fun j => ι.elem j || κ.elem j) = true)
    (kk : PW X (pc + 3) L rest h1 kc ks) : PW X pc L st h kc ks :=
  PW.vV hX hm hM hd ι e1 hst hob hn he hci hnd hdd hcc hss hr hok hsm hl0 (updH_by hnM hnM1 hnd (by rw [ea, List.map_map]; rfl) ec ek) kk
theorem as_id {n : Nat} (hn : n ≤ 1000) : ∀ (as : List Value), as.all (okV n) = true → as.map (tV (rho (List.range n) n n)) = as := fun as h => (List.map_congr_left (fun v hv => tV_id (List.all_eq_true.mp h v hv) hn)).trans (List.map_id _)
/-- a call over the whole heap: nothing is renamed -/
theorem PW.callId (hX : Fx X cc own ret d mc ms) {idx ci i : Nat} {fs : List Value} {T : u_T} {N : Nat} (hm : MSV own idx μ n) (hM : PM μ d' 0 0 as h Φ) (hd : decode cc pc = .ok (.invokevirtual idx, 3))
    (M : Nat) (hnM : h.length = M) (hMs : Nat.ble M 1000 = true) (hst : st = as.reverse ++ rest) (hob : as.head? = some (.ref i)) (hn : as.length = n + 1) (he : h[i]? = some (.inr (ci, fs))) (hci : vwCl[ci]? = some (μ.1.cls, T, N)) (hoa : as.all (okV M) = true) (hoh : okH M h = true)
    (hdd : Nat.blt d' d = true) (hcc : Nat.ble kc mc = true) (hss : Nat.ble ks ms = true) (hr : Nat.ble ((rest.map fun v => v.category).sum) 8 = true)
    (hΦ : ∀ r h', Φ r h' → h'.length = M ∧ okH M h' = true ∧ isI r = true)
    (kk : ∀ r h', Φ r h' → PW X (pc + 3) L (r.toList ++ rest) h' kc ks) : PW X pc L st h kc ks := by
  have hMs := Nat.ble_eq.mp hMs
  subst hnM
  have hlr : (List.range h.length).length = h.length := List.length_range
  refine PW.callV (mc' := 0) (ms' := 0) hX hm hM hd (List.range h.length) ?_ (by rw [hlr, as_id hMs as hoa]; exact hst) (by rw [hlr, as_id hMs as hoa]; exact hob) hn he hci (nd_range _) (by rw [hlr]; exact Nat.ble_eq.mpr hMs) hdd hcc hss hr (fun r h' hr => by rw [hlr]; exact hΦ r h' hr) (fun r h' hr => ?_)
  · rw [hlr]
    apply List.ext_getElem?
    intro j
    simp only [List.getElem?_map]
    by_cases hj : j < h.length
    · simp only [List.getElem?_range hj, Option.map_some, List.getElem?_eq_getElem hj]
      rw [rC_id (List.all_eq_true.mp hoh _ (List.getElem_mem hj)) hMs]
    · rw [List.getElem?_eq_none (by rw [hlr]; omega), List.getElem?_eq_none (by omega)]
      rfl
  · obtain ⟨l1, l2, l3⟩ := hΦ r h' hr
    have e : updH h (List.range h.length) (h'.map (rC (rho (List.range h.length) (List.range h.length).length h.length))) = h' := by
      rw [hlr]
      apply List.ext_getElem?
      intro j
      by_cases hj : j < h.length
      · have hj' : j < h'.length := by omega
        rw [updH_in (List.range h.length) _ h j j _ (nd_range _) (List.getElem?_range hj) (by rw [List.getElem?_map, List.getElem?_eq_getElem hj']; rfl) hj, rC_id (List.all_eq_true.mp l2 _ (List.getElem_mem hj')) hMs, List.getElem?_eq_getElem hj']
      · rw [List.getElem?_eq_none (by rw [updH_len]; omega), List.getElem?_eq_none (by omega)]
    rw [e]
    exact kk r h' hr
theorem PW.vVi (hX : Fx X cc own ret d mc ms) {idx ci i : Nat} {fs : List Value} {T : u_T} {N : Nat} (hm : MSV own idx μ n) (hM : PM μ d' 0 0 as h (eqP none h0)) (hd : decode cc pc = .ok (.invokevirtual idx, 3))
    (M : Nat) (hnM : h.length = M) (hMs : Nat.ble M 1000 = true) (hst : st = as.reverse ++ rest) (hob : as.head? = some (.ref i)) (hn : as.length = n + 1) (he : h[i]? = some (.inr (ci, fs))) (hci : vwCl[ci]? = some (μ.1.cls, T, N)) (hoa : as.all (okV M) = true) (hoh : okH M h = true)
    (hdd : Nat.blt d' d = true) (hcc : Nat.ble kc mc = true) (hss : Nat.ble ks ms = true) (hr : Nat.ble ((rest.map fun v => v.category).sum) 8 = true) (hl0 : h0.length = M) (ho0 : okH M h0 = true)
    (kk : PW X (pc + 3) L rest h0 kc ks) : PW X pc L st h kc ks :=
  PW.callId hX hm hM hd M hnM hMs hst hob hn he hci hoa hoh hdd hcc hss hr (fun r h' hr => by obtain ⟨rfl, rfl⟩ := hr; exact ⟨hl0, ho0, rfl⟩) (fun r h' hr => by obtain ⟨rfl, rfl⟩ := hr; exact kk)
theorem PW.vIi (hX : Fx X cc own ret d mc ms) {idx ci i : Nat} {fs : List Value} {T : u_T} {N : Nat} (hm : MSV own idx μ n) (hM : PM μ d' 0 0 as h (eqP (some (.int v)) h0)) (hd : decode cc pc = .ok (.invokevirtual idx, 3))
    (M : Nat) (hnM : h.length = M) (hMs : Nat.ble M 1000 = true) (hst : st = as.reverse ++ rest) (hob : as.head? = some (.ref i)) (hn : as.length = n + 1) (he : h[i]? = some (.inr (ci, fs))) (hci : vwCl[ci]? = some (μ.1.cls, T, N)) (hoa : as.all (okV M) = true) (hoh : okH M h = true)
    (hdd : Nat.blt d' d = true) (hcc : Nat.ble kc mc = true) (hss : Nat.ble ks ms = true) (hr : Nat.ble ((rest.map fun v => v.category).sum) 8 = true) (hl0 : h0.length = M) (ho0 : okH M h0 = true)
    (kk : PW X (pc + 3) L (.int v :: rest) h0 kc ks) : PW X pc L st h kc ks :=
  PW.callId hX hm hM hd M hnM hMs hst hob hn he hci hoa hoh hdd hcc hss hr (fun r h' hr => by obtain ⟨rfl, rfl⟩ := hr; exact ⟨hl0, ho0, rfl⟩) (fun r h' hr => by obtain ⟨rfl, rfl⟩ := hr; exact kk)
end Calls3
