def sure (P : PK) (b : Nat) : Nat → Nat
  | 0 => 0
  | i + 1 => sure P b i + (if b.testBit i = true then wrt P i else 0)
theorem sure_s (P : PK) (b i : Nat) : sure P b (i + 1) = sure P b i + (if b.testBit i = true then wrt P i else 0) := rfl
theorem lh.drop {ls : Array Slot} {n : Nat} {vs : List (Option Value)} (h : lh ls n vs) (k : Nat) : lh ls n (vs.set k none) := by
  refine ⟨h.1, h.2.1, fun q hq => ?_⟩
  obtain ⟨i, x⟩ := q
  rw [toL_mem] at hq
  refine h.2.2 (i, x) (toL_mem.mpr ?_)
  by_cases hi : i = k
  · subst hi
    rw [List.getElem?_set] at hq
    split at hq
    · split at hq <;> cases hq
    · exact absurd rfl (by assumption)
  · rw [List.getElem?_set_ne (Ne.symm hi)] at hq
    exact hq
theorem getD_lt {h : List Nat} {n k : Nat} (hall : ∀ x ∈ h, x < n) (hk : k < h.length) : h.getD k 0 < n := by
  refine hall _ ?_
  rw [List.getD_eq_getElem?_getD, List.getElem?_eq_getElem hk]
  exact List.getElem_mem hk
theorem drop_getD {h : List Nat} {k : Nat} (hk : k < h.length) : h.drop k = h.getD k 0 :: h.drop (k + 1) := by
  rw [List.drop_eq_getElem_cons hk, List.getD_eq_getElem?_getD, List.getElem?_eq_getElem hk]
  rfl
def bF (P : PK) (lim sn : Nat) (l : List Nat) : Nat := bth P (lim - pcN sn) ((dd l).filter (fun y => !sn.testBit y))
theorem bth_nil (P : PK) (n : Nat) : bth P n [] = 0 := by cases n <;> rfl
theorem bF_start (P : PK) (lim : Nat) (h : List Nat) : bF P lim 0 h = bnd P lim h := by
  unfold bF bnd
  have e : pcN 0 = 0 := rfl
  rw [e, Nat.sub_zero]
  congr 1
  rw [List.filter_eq_self]
  intro a _
  simp
theorem bF_nil (P : PK) (lim sn : Nat) : bF P lim sn [] = 0 := bth_nil _ _
theorem bF_full {P : PK} {lim sn : Nat} (h : lim ≤ pcN sn) (l : List Nat) : bF P lim sn l = 0 := by
  unfold bF
  rw [Nat.sub_eq_zero_of_le h]
  rfl
theorem bF_seen {P : PK} {lim sn x : Nat} (h : sn.testBit x = true) (l : List Nat) : bF P lim sn (x :: l) = bF P lim sn l := by
  unfold bF
  congr 1
  rw [dd, List.filter_cons_of_neg (by simp [h]), List.filter_filter]
  apply List.filter_congr
  intro y _
  by_cases hy : y = x
  · subst hy; simp [h]
  · simp [hy]
theorem bF_new {P : PK} {lim sn x : Nat} (h : sn.testBit x = false) (hs : sn < 32) (hx : x < 5) (hlt : pcN sn < lim) (l : List Nat) : bF P lim sn (x :: l) = (if kd P x = 3 then 0 else 2 ^ x) ||| (if kd P x = 2 then 0 else bF P lim (sn ||| 2 ^ x) l) := by
  unfold bF
  rw [dd, List.filter_cons_of_pos (by simp [h]), List.filter_filter, pcN_add sn hs x hx h]
  have e : lim - pcN sn = (lim - (pcN sn + 1)) + 1 := by omega
  rw [e, bth]
  congr 3
  apply List.filter_congr
  intro y _
  rw [Nat.testBit_or, Nat.testBit_two_pow]
  by_cases hy : y = x
  · subst hy; simp
  · simp [hy, Ne.symm hy]
theorem bth_lt {P : PK} {m : Nat} : ∀ (n : Nat) (l : List Nat), (∀ x ∈ l, x < m) → bth P n l < 2 ^ m
  | 0, _, _ => Nat.pow_pos (by omega)
  | _ + 1, [], _ => Nat.pow_pos (by omega)
  | n + 1, x :: l, h => by
    rw [bth]
    refine Nat.or_lt_two_pow ?_ ?_
    · split
      · exact Nat.pow_pos (by omega)
      · exact Nat.pow_lt_pow_right (by omega) (h x List.mem_cons_self)
    · split
      · exact Nat.pow_pos (by omega)
      · exact bth_lt n l (fun y hy => h y (List.mem_cons_of_mem _ hy))
theorem dd_sub : ∀ (l : List Nat) {x : Nat}, x ∈ dd l → x ∈ l
  | [], _, h => h
  | y :: l, x, h => by
    rw [dd] at h
    rcases List.mem_cons.mp h with h | h
    · exact List.mem_cons.mpr (Or.inl h)
    · exact List.mem_cons_of_mem _ (dd_sub l (List.mem_filter.mp h).1)
theorem bnd_lt {P : PK} {lim m : Nat} {h : List Nat} (hall : ∀ x ∈ h, x < m) : bnd P lim h < 2 ^ m := bth_lt _ _ (fun x hx => hall x (dd_sub h hx))
set_option maxHeartbeats 4000000 in
set_option maxRecDepth 100000 in
theorem kX10_size (l : Launch) (N0 : Nat) (G : XG) (w : Wd) (t0 Z : Nat) (P : PK) (lim : Nat) (ht : RTown G w t0 Z P lim) : XM l yX10_size wsX10_size (rmD 1) N0 G [.ref t0] w vI (fun r w1 => nI P.length = r ∧ w = w1) 0 0 := by
  refine XM.of (cc := cX10_size) (maxL := 1) (ret := (some .int)) (by decide) rfl (Nat.le_of_ble_eq_true rfl) ?_
  intro p e s m below meth c hx hb hr hlk hin0 hml hown hts hN hw hG hS ls hl
  have hown : s.vm.findClass RX10 = some m.cls := hown
  have hiX10 : ∀ x ∈ u_ws RX10 TX10 3, x ∈ wsX10_size := by decide +kernel
  have hlnk0 := hts (.fieldLink RX10 17 "LentQuill$Town" "size" "I") (by decide +kernel)
  have hl : lh ls 1 [some (.ref t0)] := hl
  obtain ⟨h5, hlim⟩ := ht.five
  obtain ⟨g, ht0, ht1, -, -, htp⟩ := id ht
  refine xaload_n hx hb dX10_size_0 hl rfl ?_
  refine xget (C := RX10) (T := TX10) (N := 3) hx hb (ci := 10) hts hiX10 hown hG hw (by repeat first | assumption | exact wu_eq _ _ _ | refine wu_ne (by omega) ?_) rfl 1 (by decide) hlnk0 (fun _ h9 => h9) rfl dX10_size_1 ?_
  exact xiret hx hb hr hlk hw hS dX10_size_4 ⟨rfl, rfl⟩
set_option maxHeartbeats 4000000 in
set_option maxRecDepth 100000 in
theorem kX10_limit (l : Launch) (N0 : Nat) (G : XG) (w : Wd) (t0 Z : Nat) (P : PK) (lim : Nat) (ht : RTown G w t0 Z P lim) : XM l yX10_limit wsX10_limit (rmD 1) N0 G [.ref t0] w vI (fun r w1 => nI lim = r ∧ w = w1) 0 0 := by
  refine XM.of (cc := cX10_limit) (maxL := 1) (ret := (some .int)) (by decide) rfl (Nat.le_of_ble_eq_true rfl) ?_
  intro p e s m below meth c hx hb hr hlk hin0 hml hown hts hN hw hG hS ls hl
  have hown : s.vm.findClass RX10 = some m.cls := hown
  have hiX10 : ∀ x ∈ u_ws RX10 TX10 3, x ∈ wsX10_limit := by decide +kernel
  have hlnk0 := hts (.fieldLink RX10 21 "LentQuill$Town" "limit" "I") (by decide +kernel)
  have hl : lh ls 1 [some (.ref t0)] := hl
  obtain ⟨h5, hlim⟩ := ht.five
  obtain ⟨g, ht0, ht1, -, -, htp⟩ := id ht
  refine xaload_n hx hb dX10_limit_0 hl rfl ?_
  refine xget (C := RX10) (T := TX10) (N := 3) hx hb (ci := 10) hts hiX10 hown hG hw (by repeat first | assumption | exact wu_eq _ _ _ | refine wu_ne (by omega) ?_) rfl 2 (by decide) hlnk0 (fun _ h9 => h9) rfl dX10_limit_1 ?_
  exact xiret hx hb hr hlk hw hS dX10_limit_4 ⟨rfl, rfl⟩
set_option maxHeartbeats 4000000 in
set_option maxRecDepth 100000 in
theorem kX10_isEmpty (l : Launch) (N0 : Nat) (G : XG) (w : Wd) (t0 Z : Nat) (P : PK) (lim : Nat) (ht : RTown G w t0 Z P lim) : XM l yX10_isEmpty wsX10_isEmpty (rmD 1) N0 G [.ref t0] w vI (fun r w1 => bI (decide (P.length = 0)) = r ∧ w = w1) 0 0 := by
  refine XM.of (cc := cX10_isEmpty) (maxL := 1) (ret := (some .boolean)) (by decide) rfl (Nat.le_of_ble_eq_true rfl) ?_
  intro p e s m below meth c hx hb hr hlk hin0 hml hown hts hN hw hG hS ls hl
  have hown : s.vm.findClass RX10 = some m.cls := hown
  have hiX10 : ∀ x ∈ u_ws RX10 TX10 3, x ∈ wsX10_isEmpty := by decide +kernel
  have hlnk0 := hts (.fieldLink RX10 17 "LentQuill$Town" "size" "I") (by decide +kernel)
  have hl : lh ls 1 [some (.ref t0)] := hl
  obtain ⟨h5, hlim⟩ := ht.five
  obtain ⟨g, ht0, ht1, -, -, htp⟩ := id ht
  refine xaload_n hx hb dX10_isEmpty_0 hl rfl ?_
  refine xget (C := RX10) (T := TX10) (N := 3) hx hb (ci := 10) hts hiX10 hown hG hw (by repeat first | assumption | exact wu_eq _ _ _ | refine wu_ne (by omega) ?_) rfl 1 (by decide) hlnk0 (fun _ h9 => h9) rfl dX10_isEmpty_1 ?_
  first | refine xifb_ne (tgt := 11) hx hb dX10_isEmpty_4 (by decide) (fun c4 => ?_) (fun c4 => ?_) | refine xif_ne (tgt := 11) hx hb dX10_isEmpty_4 (by decide) (by omega) (fun c4 => ?_) (fun c4 => ?_) | refine lv_if_ne (tgt := 11) hx hb dX10_isEmpty_4 (by decide) (fun c4 => ?_) (fun c4 => ?_)
  · skip
    refine lv_iconst (v := nI 0) hx hb dX10_isEmpty_11 (by decide) ?_
    first | exact xzret hx hb hr hlk hw hS dX10_isEmpty_12 true rfl ⟨congrArg bI (decide_eq_true (by omega)), rfl⟩ | exact xzret hx hb hr hlk hw hS dX10_isEmpty_12 false rfl ⟨congrArg bI (decide_eq_false (by omega)), rfl⟩
  · skip
    refine lv_iconst (v := nI 1) hx hb dX10_isEmpty_7 (by decide) ?_
    refine lv_goto (tgt := 12) hx hb dX10_isEmpty_8 (by decide) ?_
    first | exact xzret hx hb hr hlk hw hS dX10_isEmpty_12 true rfl ⟨congrArg bI (decide_eq_true (by omega)), rfl⟩ | exact xzret hx hb hr hlk hw hS dX10_isEmpty_12 false rfl ⟨congrArg bI (decide_eq_false (by omega)), rfl⟩
set_option maxHeartbeats 4000000 in
set_option maxRecDepth 100000 in
theorem kX10_everyone (l : Launch) (N0 : Nat) (G : XG) (w : Wd) (t0 Z : Nat) (P : PK) (lim : Nat) (ht : RTown G w t0 Z P lim) : XM l yX10_everyone wsX10_everyone (rmD 1) N0 G [.ref t0] w vI (fun r w1 => nI (2 ^ P.length - 1) = r ∧ w = w1) 0 0 := by
  refine XM.of (cc := cX10_everyone) (maxL := 1) (ret := (some .int)) (by decide) rfl (Nat.le_of_ble_eq_true rfl) ?_
  intro p e s m below meth c hx hb hr hlk hin0 hml hown hts hN hw hG hS ls hl
  have hown : s.vm.findClass RX10 = some m.cls := hown
  have hiX10 : ∀ x ∈ u_ws RX10 TX10 3, x ∈ wsX10_everyone := by decide +kernel
  have hlnk0 := hts (.fieldLink RX10 17 "LentQuill$Town" "size" "I") (by decide +kernel)
  have hl : lh ls 1 [some (.ref t0)] := hl
  obtain ⟨h5, hlim⟩ := ht.five
  obtain ⟨g, ht0, ht1, -, -, htp⟩ := id ht
  have hp2 : 0 < 2 ^ P.length := Nat.pow_pos (by omega)
  refine lv_iconst (v := nI 1) hx hb dX10_everyone_0 (by decide) ?_
  refine xaload_n hx hb dX10_everyone_1 hl rfl ?_
  refine xget (C := RX10) (T := TX10) (N := 3) hx hb (ci := 10) hts hiX10 hown hG hw (by repeat first | assumption | exact wu_eq _ _ _ | refine wu_ne (by omega) ?_) rfl 1 (by decide) hlnk0 (fun _ h9 => h9) rfl dX10_everyone_2 ?_
  first | refine xshl hx hb dX10_everyone_5 (by omega) ?_ | refine lv_ishl hx hb dX10_everyone_5 ?_
  refine lv_iconst (v := nI 1) hx hb dX10_everyone_6 (by decide) ?_
  first | refine xsub hx hb dX10_everyone_7 (by omega) ?_ | refine lv_isub hx hb dX10_everyone_7 ?_
  exact xiret hx hb hr hlk hw hS dX10_everyone_8 ⟨rfl, rfl⟩
set_option maxHeartbeats 4000000 in
set_option maxRecDepth 100000 in
theorem kX10_one (l : Launch) (N0 : Nat) (G : XG) (w : Wd) (t0 Z : Nat) (P : PK) (lim : Nat) (ht : RTown G w t0 Z P lim) (i : Nat) (hi : i < P.length) : XM l yX10_one wsX10_one (rmD 1) N0 G [.ref t0, .int (nI i)] w vR (fun r w1 => (∃ q, some q = r ∧ Z ≤ q ∧ w q = some (eO (pci (kd P i)) [.int (nI (wo P i))])) ∧ w = w1) 0 0 := by
  refine XM.of (cc := cX10_one) (maxL := 2) (ret := (some (.object "LentQuill$Person"))) (by decide) rfl (Nat.le_of_ble_eq_true rfl) ?_
  intro p e s m below meth c hx hb hr hlk hin0 hml hown hts hN hw hG hS ls hl
  have hown : s.vm.findClass RX10 = some m.cls := hown
  have hiX10 : ∀ x ∈ u_ws RX10 TX10 3, x ∈ wsX10_one := by decide +kernel
  have hlnk0 := hts (.fieldLink RX10 17 "LentQuill$Town" "size" "I") (by decide +kernel)
  have hlnk1 := hts (.fieldLink RX10 11 "LentQuill$Town" "people" "[LLentQuill$Person;") (by decide +kernel)
  have hl : lh ls 2 [some (.ref t0), some (.int (nI i))] := hl
  obtain ⟨h5, hlim⟩ := ht.five
  obtain ⟨g, ht0, ht1, -, -, htp⟩ := id ht
  obtain ⟨-, -, q, hgq, hqZ, hq⟩ := htp i hi
  refine xiload_n hx hb dX10_one_0 hl rfl ?_
  refine xif_lt (tgt := 21) hx hb dX10_one_1 (by decide) (by omega) ?_
  refine xiload_n hx hb dX10_one_4 hl rfl ?_
  refine xaload_n hx hb dX10_one_5 hl rfl ?_
  refine xget (C := RX10) (T := TX10) (N := 3) hx hb (ci := 10) hts hiX10 hown hG hw (by repeat first | assumption | exact wu_eq _ _ _ | refine wu_ne (by omega) ?_) rfl 1 (by decide) hlnk0 (fun _ h9 => h9) rfl dX10_one_6 ?_
  first | refine xcmp_ge (tgt := 21) hx hb dX10_one_9 (by decide) (by omega) (by omega) (fun c9 => ?_) (fun c9 => ?_) | refine lv_icmp_ge (tgt := 21) hx hb dX10_one_9 (by decide) (fun c9 => ?_) (fun c9 => ?_)
  · skip
    exfalso
    omega
  · skip
    refine xiload_n hx hb dX10_one_12 hl rfl ?_
    refine xaload_n hx hb dX10_one_13 hl rfl ?_
    refine xget (C := RX10) (T := TX10) (N := 3) hx hb (ci := 10) hts hiX10 hown hG hw (by repeat first | assumption | exact wu_eq _ _ _ | refine wu_ne (by omega) ?_) rfl 0 (by decide) hlnk1 (fun _ h9 => h9) rfl dX10_one_14 ?_
    first | refine xalenI hx hb hG hw (by repeat first | assumption | exact wu_eq _ _ _ | refine wu_ne (by omega) ?_) dX10_one_17 ?_ | refine xalenP hx hb hG hw (by repeat first | assumption | exact wu_eq _ _ _ | refine wu_ne (by omega) ?_) dX10_one_17 ?_ | refine xalenN hx hb hG hw (by repeat first | assumption | exact wu_eq _ _ _ | refine wu_ne (by omega) ?_) dX10_one_17 ?_
    first | refine xcmp_lt (tgt := 25) hx hb dX10_one_18 (by decide) (by omega) (by omega) (fun c18 => ?_) (fun c18 => ?_) | refine lv_icmp_lt (tgt := 25) hx hb dX10_one_18 (by decide) (fun c18 => ?_) (fun c18 => ?_)
    · skip
      refine xaload_n hx hb dX10_one_25 hl rfl ?_
      refine xget (C := RX10) (T := TX10) (N := 3) hx hb (ci := 10) hts hiX10 hown hG hw (by repeat first | assumption | exact wu_eq _ _ _ | refine wu_ne (by omega) ?_) rfl 0 (by decide) hlnk1 (fun _ h9 => h9) rfl dX10_one_26 ?_
      refine xiload_n hx hb dX10_one_29 hl rfl ?_
      refine xpald hx hb hG hw (by repeat first | assumption | exact wu_eq _ _ _ | refine wu_ne (by omega) ?_) (by omega) (by omega) dX10_one_30 ?_
      first | exact xaretS hx hb hr hlk hw hS dX10_one_31 ⟨⟨q, hgq.symm, hqZ, hq⟩, rfl⟩ | exact xaretN hx hb hr hlk hw hS dX10_one_31 ⟨⟨q, hgq.symm, hqZ, hq⟩, rfl⟩ | exact xaret hx hb hr hlk hw hS dX10_one_31 ⟨⟨q, hgq.symm, hqZ, hq⟩, rfl⟩
    · skip
      exfalso
      omega
set_option maxHeartbeats 4000000 in
set_option maxRecDepth 100000 in
theorem kX10_one_out (l : Launch) (N0 : Nat) (G : XG) (w : Wd) (t0 Z : Nat) (P : PK) (lim : Nat) (ht : RTown G w t0 Z P lim) (x : Int32) (hx0 : ¬ inR x P.length) : XM l yX10_one wsX10_one (rmD 1) N0 G [.ref t0, .int x] w vR (fun r w1 => none = r ∧ w = w1) 0 0 := by
  refine XM.of (cc := cX10_one) (maxL := 2) (ret := (some (.object "LentQuill$Person"))) (by decide) rfl (Nat.le_of_ble_eq_true rfl) ?_
  intro p e s m below meth c hx hb hr hlk hin0 hml hown hts hN hw hG hS ls hl
  have hown : s.vm.findClass RX10 = some m.cls := hown
  have hiX10 : ∀ x ∈ u_ws RX10 TX10 3, x ∈ wsX10_one := by decide +kernel
  have hlnk0 := hts (.fieldLink RX10 17 "LentQuill$Town" "size" "I") (by decide +kernel)
  have hl : lh ls 2 [some (.ref t0), some (.int x)] := hl
  obtain ⟨h5, hlim⟩ := ht.five
  obtain ⟨g, ht0, ht1, -, -, htp⟩ := id ht
  refine xiload_n hx hb dX10_one_0 hl rfl ?_
  refine lv_if_lt (tgt := 21) hx hb dX10_one_1 (by decide) (fun c1 => ?_) (fun c1 => ?_)
  · skip
    refine lv_null hx hb dX10_one_21 ?_
    refine lv_goto (tgt := 31) hx hb dX10_one_22 (by decide) ?_
    first | exact xaretS hx hb hr hlk hw hS dX10_one_31 ⟨rfl, rfl⟩ | exact xaretN hx hb hr hlk hw hS dX10_one_31 ⟨rfl, rfl⟩ | exact xaret hx hb hr hlk hw hS dX10_one_31 ⟨rfl, rfl⟩
  · skip
    refine xiload_n hx hb dX10_one_4 hl rfl ?_
    refine xaload_n hx hb dX10_one_5 hl rfl ?_
    refine xget (C := RX10) (T := TX10) (N := 3) hx hb (ci := 10) hts hiX10 hown hG hw (by repeat first | assumption | exact wu_eq _ _ _ | refine wu_ne (by omega) ?_) rfl 1 (by decide) hlnk0 (fun _ h9 => h9) rfl dX10_one_6 ?_
    refine lv_icmp_ge (tgt := 21) hx hb dX10_one_9 (by decide) (fun c9 => ?_) (fun c9 => ?_)
    · skip
      refine lv_null hx hb dX10_one_21 ?_
      refine lv_goto (tgt := 31) hx hb dX10_one_22 (by decide) ?_
      first | exact xaretS hx hb hr hlk hw hS dX10_one_31 ⟨rfl, rfl⟩ | exact xaretN hx hb hr hlk hw hS dX10_one_31 ⟨rfl, rfl⟩ | exact xaret hx hb hr hlk hw hS dX10_one_31 ⟨rfl, rfl⟩
    · skip
      exfalso
      exact hx0 (inR_lt c1 c9 (by omega))
set_option maxHeartbeats 4000000 in
set_option maxRecDepth 100000 in
theorem kX10_wouldPass (l : Launch) (N0 : Nat) (G : XG) (w : Wd) (t0 Z : Nat) (P : PK) (lim : Nat) (ht : RTown G w t0 Z P lim) (p0 : Nat) (h : List Nat) (hp : RPen G w p0 h) (hall : ∀ x ∈ h, x < P.length) (t : Nat) (htl : t < P.length) : XM l yX10_wouldPass wsX10_wouldPass (rmD 3) N0 G [.ref t0, .ref p0, .int (nI t)] w vI (fun r w1 => bI (decide (h.getD 0 0 ≠ t ∧ chu (kd P (h.getD 0 0)) = false)) = r ∧ w = w1) 0 0 := by
  refine XM.of (cc := cX10_wouldPass) (maxL := 4) (ret := (some .boolean)) (by decide) rfl (Nat.le_of_ble_eq_true rfl) ?_
  intro p e s m below meth c hx hb hr hlk hin0 hml hown hts hN hw hG hS ls hl
  have hown : s.vm.findClass RX10 = some m.cls := hown
  have hl : lh ls 4 [some (.ref t0), some (.ref p0), some (.int (nI t)), none] := hl
  obtain ⟨h5, hlim⟩ := ht.five
  obtain ⟨g, ht0, ht1, -, -, htp⟩ := id ht
  obtain ⟨hl0, hl41⟩ := hp.len
  have hpc := hp.cell
  have hh0 := getD_lt hall hl0
  refine xaload_n hx hb dX10_wouldPass_0 hl rfl ?_
  refine xaload_n hx hb dX10_wouldPass_1 hl rfl ?_
  refine xVi ⟨hx, hb, hml, hown, hts⟩ (kX6_holder l N0 G _ _ _ hp) (cwV 0 hts gX10_wouldPass_X6_holder rfl rfl rfl (by decide +kernel) ⟨Nat.le_of_ble_eq_true rfl, Nat.le_of_ble_eq_true rfl⟩) hG hN hw hS (ci := 6) (by repeat first | assumption | exact wu_eq _ _ _ | refine wu_ne (by omega) ?_) rfl rfl hl.1 rfl (Nat.le_of_ble_eq_true rfl) dX10_wouldPass_2 ⟨Nat.le_of_ble_eq_true rfl, Nat.le_of_ble_eq_true rfl⟩ (fun r2 w2 H locs hp2 hw hS => ?_)
  obtain ⟨rfl, rfl⟩ := hp2
  refine xVr ⟨hx, hb, hml, hown, hts⟩ (kX10_one l N0 G _ _ Z P lim ht _ hh0) (cwV 1 hts gX10_wouldPass_X10_one rfl rfl rfl (by decide +kernel) ⟨Nat.le_of_ble_eq_true rfl, Nat.le_of_ble_eq_true rfl⟩) hG hN hw hS (ci := 10) (by repeat first | assumption | exact wu_eq _ _ _ | refine wu_ne (by omega) ?_) rfl rfl hl.1 rfl (Nat.le_of_ble_eq_true rfl) dX10_wouldPass_5 ⟨Nat.le_of_ble_eq_true rfl, Nat.le_of_ble_eq_true rfl⟩ (fun r5 w5 H locs hp5 hw hS => ?_)
  obtain ⟨⟨q, rfl, hqZ, hq⟩, rfl⟩ := hp5
  refine xrf rfl ?_
  first | refine xastore_n hx hb dX10_wouldPass_8 hl (by decide) rfl (fun ls hl => ?_) | refine xastore_nN hx hb dX10_wouldPass_8 hl (by decide) rfl (fun ls hl => ?_)
  refine xaload_n hx hb dX10_wouldPass_9 hl rfl ?_
  refine lv_ifnull hx hb dX10_wouldPass_10 ?_
  refine xaload_n hx hb dX10_wouldPass_13 hl rfl ?_
  have call14 : (∀ (H : Heap) (locs : List Loc), PW N0 G w H → va_S (fun q => N0 ≤ q) s.heap H locs → W p l e (rmD 3) s m ([.ref t0, .ref p0, .int (nI t)] : List Value).toArray below meth c H locs 0 0 (MQ below (XQ N0 G vI (fun r w1 => bI (decide (h.getD 0 0 ≠ t ∧ chu (kd P (h.getD 0 0)) = false)) = r ∧ w = w1)) ([.ref t0, .ref p0, .int (nI t)] : List Value).toArray s 0 0 (fun q => N0 ≤ q)) (F0 m 17 ls (.int (bI (chu (kd P (h.getD 0 0)))) :: []))) → W p l e (rmD 3) s m ([.ref t0, .ref p0, .int (nI t)] : List Value).toArray below meth c H locs 0 0 (MQ below (XQ N0 G vI (fun r w1 => bI (decide (h.getD 0 0 ≠ t ∧ chu (kd P (h.getD 0 0)) = false)) = r ∧ w = w1)) ([.ref t0, .ref p0, .int (nI t)] : List Value).toArray s 0 0 (fun q => N0 ≤ q)) (F0 m 14 ls (.ref q :: [])) := by
    intro kk
    rcases kd_cases ((ht.kd hh0).1) with h5 | h5 | h5 | h5 | h5
    · have hq5 := hq
      rw [h5] at hq5
      refine xVi ⟨hx, hb, hml, hown, hts⟩ (kX7_keepsPens l N0 G w q) (cwV 0 hts gX10_wouldPass_X7_keepsPens rfl rfl rfl (by decide +kernel) ⟨Nat.le_of_ble_eq_true rfl, Nat.le_of_ble_eq_true rfl⟩) hG hN hw hS (ci := 7) hq5 rfl rfl hl.1 rfl (Nat.le_of_ble_eq_true rfl) dX10_wouldPass_14 ⟨Nat.le_of_ble_eq_true rfl, Nat.le_of_ble_eq_true rfl⟩ (fun r w1 H locs hp hw hS => ?_)
      obtain ⟨rfl, rfl⟩ := hp
      exact xtop (by first | (rw [h5]; rfl) | (unfold wrt; rw [h5]; rfl)) (kk _ _ hw hS)
    · have hq5 := hq
      rw [h5] at hq5
      refine xUi ⟨hx, hb, hml, hown, hts⟩ (kX1_keepsPens l N0 G w q) (va_cwO 0 hts gX10_wouldPass_X1_keepsPens_u74X1 rfl rfl rfl (b0 := cX7_keepsPens) (m0 := 1) (r0 := some .boolean) (by decide +kernel) (by decide +kernel) ⟨Nat.le_of_ble_eq_true rfl, Nat.le_of_ble_eq_true rfl⟩) hG hN hw hS (ci := 1) hq5 rfl rfl hl.1 rfl (Nat.le_of_ble_eq_true rfl) dX10_wouldPass_14 ⟨Nat.le_of_ble_eq_true rfl, Nat.le_of_ble_eq_true rfl⟩ (fun r w1 H locs hp hw hS => ?_)
      obtain ⟨rfl, rfl⟩ := hp
      exact xtop (by first | (rw [h5]; rfl) | (unfold wrt; rw [h5]; rfl)) (kk _ _ hw hS)
    · have hq5 := hq
      rw [h5] at hq5
      refine xUi ⟨hx, hb, hml, hown, hts⟩ (kX7_keepsPens l N0 G w q) (va_cwU 0 hts gX10_wouldPass_X7_keepsPens_u74X9 rfl rfl rfl rfl (by decide +kernel) ⟨Nat.le_of_ble_eq_true rfl, Nat.le_of_ble_eq_true rfl⟩) hG hN hw hS (ci := 9) hq5 rfl rfl hl.1 rfl (Nat.le_of_ble_eq_true rfl) dX10_wouldPass_14 ⟨Nat.le_of_ble_eq_true rfl, Nat.le_of_ble_eq_true rfl⟩ (fun r w1 H locs hp hw hS => ?_)
      obtain ⟨rfl, rfl⟩ := hp
      exact xtop (by first | (rw [h5]; rfl) | (unfold wrt; rw [h5]; rfl)) (kk _ _ hw hS)
    · have hq5 := hq
      rw [h5] at hq5
      refine xUi ⟨hx, hb, hml, hown, hts⟩ (kX7_keepsPens l N0 G w q) (va_cwU 0 hts gX10_wouldPass_X7_keepsPens_u74X3 rfl rfl rfl rfl (by decide +kernel) ⟨Nat.le_of_ble_eq_true rfl, Nat.le_of_ble_eq_true rfl⟩) hG hN hw hS (ci := 3) hq5 rfl rfl hl.1 rfl (Nat.le_of_ble_eq_true rfl) dX10_wouldPass_14 ⟨Nat.le_of_ble_eq_true rfl, Nat.le_of_ble_eq_true rfl⟩ (fun r w1 H locs hp hw hS => ?_)
      obtain ⟨rfl, rfl⟩ := hp
      exact xtop (by first | (rw [h5]; rfl) | (unfold wrt; rw [h5]; rfl)) (kk _ _ hw hS)
    · have hq5 := hq
      rw [h5] at hq5
      refine xUi ⟨hx, hb, hml, hown, hts⟩ (kX1_keepsPens l N0 G w q) (va_cwO 0 hts gX10_wouldPass_X1_keepsPens_u74X0 rfl rfl rfl (b0 := cX7_keepsPens) (m0 := 1) (r0 := some .boolean) (by decide +kernel) (by decide +kernel) ⟨Nat.le_of_ble_eq_true rfl, Nat.le_of_ble_eq_true rfl⟩) hG hN hw hS (ci := 0) hq5 rfl rfl hl.1 rfl (Nat.le_of_ble_eq_true rfl) dX10_wouldPass_14 ⟨Nat.le_of_ble_eq_true rfl, Nat.le_of_ble_eq_true rfl⟩ (fun r w1 H locs hp hw hS => ?_)
      obtain ⟨rfl, rfl⟩ := hp
      exact xtop (by first | (rw [h5]; rfl) | (unfold wrt; rw [h5]; rfl)) (kk _ _ hw hS)
  refine call14 (fun H locs hw hS => ?_)
  first | refine xifb_ne (tgt := 32) hx hb dX10_wouldPass_17 (by decide) (fun c17 => ?_) (fun c17 => ?_) | refine xif_ne (tgt := 32) hx hb dX10_wouldPass_17 (by decide) (by omega) (fun c17 => ?_) (fun c17 => ?_) | refine lv_if_ne (tgt := 32) hx hb dX10_wouldPass_17 (by decide) (fun c17 => ?_) (fun c17 => ?_)
  · skip
    refine lv_iconst (v := nI 0) hx hb dX10_wouldPass_32 (by decide) ?_
    first | exact xzret hx hb hr hlk hw hS dX10_wouldPass_33 true rfl ⟨congrArg bI (decide_eq_true (by simp_all)), rfl⟩ | exact xzret hx hb hr hlk hw hS dX10_wouldPass_33 false rfl ⟨congrArg bI (decide_eq_false (by simp_all)), rfl⟩
  · skip
    refine xaload_n hx hb dX10_wouldPass_20 hl rfl ?_
    refine xVi ⟨hx, hb, hml, hown, hts⟩ (kX6_holder l N0 G _ _ _ hp) (cwV 0 hts gX10_wouldPass_X6_holder rfl rfl rfl (by decide +kernel) ⟨Nat.le_of_ble_eq_true rfl, Nat.le_of_ble_eq_true rfl⟩) hG hN hw hS (ci := 6) (by repeat first | assumption | exact wu_eq _ _ _ | refine wu_ne (by omega) ?_) rfl rfl hl.1 rfl (Nat.le_of_ble_eq_true rfl) dX10_wouldPass_21 ⟨Nat.le_of_ble_eq_true rfl, Nat.le_of_ble_eq_true rfl⟩ (fun r21 w21 H locs hp21 hw hS => ?_)
    obtain ⟨rfl, rfl⟩ := hp21
    refine xiload_n hx hb dX10_wouldPass_24 hl rfl ?_
    first | refine xcmp_eq (tgt := 32) hx hb dX10_wouldPass_25 (by decide) (by omega) (by omega) (fun c25 => ?_) (fun c25 => ?_) | refine lv_icmp_eq (tgt := 32) hx hb dX10_wouldPass_25 (by decide) (fun c25 => ?_) (fun c25 => ?_)
    · skip
      refine lv_iconst (v := nI 0) hx hb dX10_wouldPass_32 (by decide) ?_
      first | exact xzret hx hb hr hlk hw hS dX10_wouldPass_33 true rfl ⟨congrArg bI (decide_eq_true (by simp_all)), rfl⟩ | exact xzret hx hb hr hlk hw hS dX10_wouldPass_33 false rfl ⟨congrArg bI (decide_eq_false (by simp_all)), rfl⟩
    · skip
      refine lv_iconst (v := nI 1) hx hb dX10_wouldPass_28 (by decide) ?_
      refine lv_goto (tgt := 33) hx hb dX10_wouldPass_29 (by decide) ?_
      first | exact xzret hx hb hr hlk hw hS dX10_wouldPass_33 true rfl ⟨congrArg bI (decide_eq_true (by simp_all)), rfl⟩ | exact xzret hx hb hr hlk hw hS dX10_wouldPass_33 false rfl ⟨congrArg bI (decide_eq_false (by simp_all)), rfl⟩
set_option maxHeartbeats 4000000 in
set_option maxRecDepth 100000 in
theorem kX10_canBeLent (l : Launch) (N0 : Nat) (G : XG) (w : Wd) (t0 Z : Nat) (P : PK) (lim : Nat) (ht : RTown G w t0 Z P lim) (p0 : Nat) (h : List Nat) (hp : RPen G w p0 h) (hall : ∀ x ∈ h, x < P.length) (t : Nat) (htl : t < P.length) : XM l yX10_canBeLent wsX10_canBeLent (rmD 4) N0 G [.ref t0, .ref p0, .int (nI t)] w vI (fun r w1 => bI (mayL P h t) = r ∧ w = w1) 0 0 := by
  refine XM.of (cc := cX10_canBeLent) (maxL := 3) (ret := (some .boolean)) (by decide) rfl (Nat.le_of_ble_eq_true rfl) ?_
  intro p e s m below meth c hx hb hr hlk hin0 hml hown hts hN hw hG hS ls hl
  have hown : s.vm.findClass RX10 = some m.cls := hown
  have hl : lh ls 3 [some (.ref t0), some (.ref p0), some (.int (nI t))] := hl
  obtain ⟨h5, hlim⟩ := ht.five
  obtain ⟨g, ht0, ht1, -, -, htp⟩ := id ht
  obtain ⟨hl0, hl41⟩ := hp.len
  have hpc := hp.cell
  refine xaload_n hx hb dX10_canBeLent_0 hl rfl ?_
  refine xaload_n hx hb dX10_canBeLent_1 hl rfl ?_
  refine xiload_n hx hb dX10_canBeLent_2 hl rfl ?_
  refine xVi ⟨hx, hb, hml, hown, hts⟩ (kX10_wouldPass l N0 G _ _ Z P lim ht _ h hp hall t htl) (cwV 2 hts gX10_canBeLent_X10_wouldPass rfl rfl rfl (by decide +kernel) ⟨Nat.le_of_ble_eq_true rfl, Nat.le_of_ble_eq_true rfl⟩) hG hN hw hS (ci := 10) (by repeat first | assumption | exact wu_eq _ _ _ | refine wu_ne (by omega) ?_) rfl rfl hl.1 rfl (Nat.le_of_ble_eq_true rfl) dX10_canBeLent_3 ⟨Nat.le_of_ble_eq_true rfl, Nat.le_of_ble_eq_true rfl⟩ (fun r3 w3 H locs hp3 hw hS => ?_)
  obtain ⟨rfl, rfl⟩ := hp3
  first | refine xifb_eq (tgt := 20) hx hb dX10_canBeLent_6 (by decide) (fun c6 => ?_) (fun c6 => ?_) | refine xif_eq (tgt := 20) hx hb dX10_canBeLent_6 (by decide) (by omega) (fun c6 => ?_) (fun c6 => ?_) | refine lv_if_eq (tgt := 20) hx hb dX10_canBeLent_6 (by decide) (fun c6 => ?_) (fun c6 => ?_)
  · skip
    simp only [decide_eq_false_iff_not] at c6
    refine lv_iconst (v := nI 0) hx hb dX10_canBeLent_20 (by decide) ?_
    first | exact xzret hx hb hr hlk hw hS dX10_canBeLent_21 true rfl ⟨congrArg bI (decide_eq_true ⟨c6.1, c6.2, by omega⟩), rfl⟩ | exact xzret hx hb hr hlk hw hS dX10_canBeLent_21 false rfl ⟨congrArg bI (decide_eq_false (fun h9 => by first | exact c6 ⟨h9.1, h9.2.1⟩ | omega)), rfl⟩
  · skip
    simp only [decide_eq_true_eq] at c6
    refine xaload_n hx hb dX10_canBeLent_9 hl rfl ?_
    refine xVi ⟨hx, hb, hml, hown, hts⟩ (kX6_isLentOut l N0 G _ _ _ hp) (cwV 0 hts gX10_canBeLent_X6_isLentOut rfl rfl rfl (by decide +kernel) ⟨Nat.le_of_ble_eq_true rfl, Nat.le_of_ble_eq_true rfl⟩) hG hN hw hS (ci := 6) (by repeat first | assumption | exact wu_eq _ _ _ | refine wu_ne (by omega) ?_) rfl rfl hl.1 rfl (Nat.le_of_ble_eq_true rfl) dX10_canBeLent_10 ⟨Nat.le_of_ble_eq_true rfl, Nat.le_of_ble_eq_true rfl⟩ (fun r10 w10 H locs hp10 hw hS => ?_)
    obtain ⟨rfl, rfl⟩ := hp10
    first | refine xifb_ne (tgt := 20) hx hb dX10_canBeLent_13 (by decide) (fun c13 => ?_) (fun c13 => ?_) | refine xif_ne (tgt := 20) hx hb dX10_canBeLent_13 (by decide) (by omega) (fun c13 => ?_) (fun c13 => ?_) | refine lv_if_ne (tgt := 20) hx hb dX10_canBeLent_13 (by decide) (fun c13 => ?_) (fun c13 => ?_)
    · skip
      simp only [decide_eq_true_eq] at c13
      refine lv_iconst (v := nI 0) hx hb dX10_canBeLent_20 (by decide) ?_
      first | exact xzret hx hb hr hlk hw hS dX10_canBeLent_21 true rfl ⟨congrArg bI (decide_eq_true ⟨c6.1, c6.2, by omega⟩), rfl⟩ | exact xzret hx hb hr hlk hw hS dX10_canBeLent_21 false rfl ⟨congrArg bI (decide_eq_false (fun h9 => by first | exact c6 ⟨h9.1, h9.2.1⟩ | omega)), rfl⟩
    · skip
      simp only [decide_eq_false_iff_not] at c13
      refine lv_iconst (v := nI 1) hx hb dX10_canBeLent_16 (by decide) ?_
      refine lv_goto (tgt := 21) hx hb dX10_canBeLent_17 (by decide) ?_
      first | exact xzret hx hb hr hlk hw hS dX10_canBeLent_21 true rfl ⟨congrArg bI (decide_eq_true ⟨c6.1, c6.2, by omega⟩), rfl⟩ | exact xzret hx hb hr hlk hw hS dX10_canBeLent_21 false rfl ⟨congrArg bI (decide_eq_false (fun h9 => by first | exact c6 ⟨h9.1, h9.2.1⟩ | omega)), rfl⟩
set_option maxHeartbeats 4000000 in
set_option maxRecDepth 100000 in
theorem kX10_boundBy (l : Launch) (N0 : Nat) (G : XG) (w : Wd) (t0 Z : Nat) (P : PK) (lim : Nat) (ht : RTown G w t0 Z P lim) (p0 : Nat) (h : List Nat) (hp : RPen G w p0 h) (hall : ∀ x ∈ h, x < P.length) : XM l yX10_boundBy wsX10_boundBy (rmD 3) N0 G [.ref t0, .ref p0] w vI (fun r w1 => nI (bnd P lim h) = r ∧ w = w1) 0 0 := by
  refine XM.of (cc := cX10_boundBy) (maxL := 7) (ret := (some .int)) (by decide) rfl (Nat.le_of_ble_eq_true rfl) ?_
  intro p e s m below meth c hx hb hr hlk hin0 hml hown hts hN hw hG hS ls hl
  have hown : s.vm.findClass RX10 = some m.cls := hown
  have hiX10 : ∀ x ∈ u_ws RX10 TX10 3, x ∈ wsX10_boundBy := by decide +kernel
  have hlnk0 := hts (.fieldLink RX10 21 "LentQuill$Town" "limit" "I") (by decide +kernel)
  have hlnk1 := hts (.initialized RX11) (by decide +kernel)
  have hlnk2 := hts (.static yX11_holds) (by decide +kernel)
  have hl : lh ls 7 [some (.ref t0), some (.ref p0), none, none, none, none, none] := hl
  obtain ⟨h5, hlim⟩ := ht.five
  obtain ⟨g, ht0, ht1, -, -, htp⟩ := id ht
  obtain ⟨hl0, hl41⟩ := hp.len
  have hpc := hp.cell
  refine lv_iconst (v := nI 0) hx hb dX10_boundBy_0 (by decide) ?_
  refine xistore_n hx hb dX10_boundBy_1 hl (by decide) rfl (fun ls hl => ?_)
  refine lv_iconst (v := nI 0) hx hb dX10_boundBy_2 (by decide) ?_
  refine xistore_n hx hb dX10_boundBy_3 hl (by decide) rfl (fun ls hl => ?_)
  refine lv_iconst (v := nI 0) hx hb dX10_boundBy_4 (by decide) ?_
  refine xistore hx hb dX10_boundBy_5 hl (by decide) rfl (fun ls hl => ?_)
  have loop7 : ∀ (nf : Nat) (k sn b : Nat) (H : Heap) (locs : List Loc) (ls : Array Slot), h.length - k < nf → (k ≤ h.length) → (sn < 32) → (b < 32) → (b ||| bF P lim sn (h.drop k) = bnd P lim h) → PW N0 G w H → va_S (fun q => N0 ≤ q) s.heap H locs → lh ls 7 [some (.ref t0), some (.ref p0), some (.int (nI sn)), some (.int (nI b)), some (.int (nI k)), none, none] → W p l e (rmD 3) s m ([.ref t0, .ref p0] : List Value).toArray below meth c H locs 0 0 (MQ below (XQ N0 G vI (fun r w1 => nI (bnd P lim h) = r ∧ w = w1)) ([.ref t0, .ref p0] : List Value).toArray s 0 0 (fun q => N0 ≤ q)) (F0 m 7 ls []) := by
    intro nf
    induction nf with
    | zero => intros; omega
    | succ nf ih7 =>
      intro k sn b H locs ls hnf hk hsn hb32 hinv hw hS hl
      refine xiload hx hb dX10_boundBy_7 hl rfl ?_
      refine xaload_n hx hb dX10_boundBy_9 hl rfl ?_
      refine xVi ⟨hx, hb, hml, hown, hts⟩ (kX6_timesLent l N0 G _ _ _ hp) (cwV 0 hts gX10_boundBy_X6_timesLent rfl rfl rfl (by decide +kernel) ⟨Nat.le_of_ble_eq_true rfl, Nat.le_of_ble_eq_true rfl⟩) hG hN hw hS (ci := 6) (by repeat first | assumption | exact wu_eq _ _ _ | refine wu_ne (by omega) ?_) rfl rfl hl.1 rfl (Nat.le_of_ble_eq_true rfl) dX10_boundBy_10 ⟨Nat.le_of_ble_eq_true rfl, Nat.le_of_ble_eq_true rfl⟩ (fun r10 w10 H locs hp10 hw hS => ?_)
      obtain ⟨rfl, rfl⟩ := hp10
      first | refine xcmp_gt (tgt := 99) hx hb dX10_boundBy_13 (by decide) (by omega) (by omega) (fun c13 => ?_) (fun c13 => ?_) | refine lv_icmp_gt (tgt := 99) hx hb dX10_boundBy_13 (by decide) (fun c13 => ?_) (fun c13 => ?_)
      · skip
        refine xiload_n hx hb dX10_boundBy_99 hl rfl ?_
        exact xiret hx hb hr hlk hw hS dX10_boundBy_100 ⟨congrArg nI (by first | rw [← hinv, List.drop_of_length_le (by omega), bF_nil, Nat.or_zero] | rw [← hinv, bF_full (by omega), Nat.or_zero] | (rw [← hinv]; simp only [Nat.or_zero, Nat.zero_or])), rfl⟩
      · skip
        refine xiload_n hx hb dX10_boundBy_16 hl rfl ?_
        refine xSi ⟨hx, hb, hml, hown, hts⟩ (kJ6_bitCount_0f7a4 l N0 G _ sn hsn) (va_cwS 1 hts gX10_boundBy_J6_bitCount_0f7a4 rfl rfl rfl (by decide +kernel) ⟨Nat.le_of_ble_eq_true rfl, Nat.le_of_ble_eq_true rfl⟩) hG hN hw hS rfl hl.1 rfl (Nat.le_of_ble_eq_true rfl) dX10_boundBy_17 ⟨Nat.le_of_ble_eq_true rfl, Nat.le_of_ble_eq_true rfl⟩ (fun r17 w17 H locs hp17 hw hS => ?_)
        obtain ⟨rfl, rfl⟩ := hp17
        refine xaload_n hx hb dX10_boundBy_20 hl rfl ?_
        refine xget (C := RX10) (T := TX10) (N := 3) hx hb (ci := 10) hts hiX10 hown hG hw (by repeat first | assumption | exact wu_eq _ _ _ | refine wu_ne (by omega) ?_) rfl 2 (by decide) hlnk0 (fun _ h9 => h9) rfl dX10_boundBy_21 ?_
        have hpc5 := pcN_le sn
        first | refine xcmp_ge (tgt := 99) hx hb dX10_boundBy_24 (by decide) (by omega) (by omega) (fun c24 => ?_) (fun c24 => ?_) | refine lv_icmp_ge (tgt := 99) hx hb dX10_boundBy_24 (by decide) (fun c24 => ?_) (fun c24 => ?_)
        · skip
          refine xiload_n hx hb dX10_boundBy_99 hl rfl ?_
          exact xiret hx hb hr hlk hw hS dX10_boundBy_100 ⟨congrArg nI (by first | rw [← hinv, List.drop_of_length_le (by omega), bF_nil, Nat.or_zero] | rw [← hinv, bF_full (by omega), Nat.or_zero] | (rw [← hinv]; simp only [Nat.or_zero, Nat.zero_or])), rfl⟩
        · skip
          refine xaload_n hx hb dX10_boundBy_27 hl rfl ?_
          refine xiload hx hb dX10_boundBy_28 hl rfl ?_
          have hk2 : k < h.length := by omega
          have hx5 := getD_lt hall hk2
          have hx32 := p2_lt (show h.getD k 0 < 5 by omega)
          refine xVi ⟨hx, hb, hml, hown, hts⟩ (kX6_holderBefore l N0 G _ _ _ hp k (by omega)) (cwV 1 hts gX10_boundBy_X6_holderBefore rfl rfl rfl (by decide +kernel) ⟨Nat.le_of_ble_eq_true rfl, Nat.le_of_ble_eq_true rfl⟩) hG hN hw hS (ci := 6) (by repeat first | assumption | exact wu_eq _ _ _ | refine wu_ne (by omega) ?_) rfl rfl hl.1 rfl (Nat.le_of_ble_eq_true rfl) dX10_boundBy_30 ⟨Nat.le_of_ble_eq_true rfl, Nat.le_of_ble_eq_true rfl⟩ (fun r30 w30 H locs hp30 hw hS => ?_)
          obtain ⟨rfl, rfl⟩ := hp30
          refine xtop (if_pos hk2) ?_
          refine xistore hx hb dX10_boundBy_33 hl (by decide) rfl (fun ls hl => ?_)
          refine xaload_n hx hb dX10_boundBy_35 hl rfl ?_
          refine xiload hx hb dX10_boundBy_36 hl rfl ?_
          refine xVr ⟨hx, hb, hml, hown, hts⟩ (kX10_one l N0 G _ _ Z P lim ht _ hx5) (cwV 1 hts gX10_boundBy_X10_one rfl rfl rfl (by decide +kernel) ⟨Nat.le_of_ble_eq_true rfl, Nat.le_of_ble_eq_true rfl⟩) hG hN hw hS (ci := 10) (by repeat first | assumption | exact wu_eq _ _ _ | refine wu_ne (by omega) ?_) rfl rfl hl.1 rfl (Nat.le_of_ble_eq_true rfl) dX10_boundBy_38 ⟨Nat.le_of_ble_eq_true rfl, Nat.le_of_ble_eq_true rfl⟩ (fun r38 w38 H locs hp38 hw hS => ?_)
          obtain ⟨⟨q, rfl, hqZ, hq⟩, rfl⟩ := hp38
          refine xrf rfl ?_
          refine xastore hx hb dX10_boundBy_41 hl (by decide) rfl (fun ls hl => ?_)
          refine xaload hx hb dX10_boundBy_43 hl rfl ?_
          refine lv_ifnull hx hb dX10_boundBy_45 ?_
          refine xiload_n hx hb dX10_boundBy_48 hl rfl ?_
          refine xiload hx hb dX10_boundBy_49 hl rfl ?_
          refine xSNi ⟨hx, hb, hml, hown, hts⟩ (kX11_holds l N0 G _ sn (h.getD k 0) hsn (by omega)) ⟨(va_cnB (host := "LentQuill") 2 hts gX10_boundBy_X11_holds_n96 rfl rfl rfl (hG.2.1 (.methodLinkNest RX10 96 yX11_holds "LentQuill") (by decide +kernel)) hlnk1 (by decide +kernel) ⟨Nat.le_of_ble_eq_true rfl, Nat.le_of_ble_eq_true rfl⟩), hlnk2, trivial⟩ hG hN hw hS rfl hl.1 rfl (Nat.le_of_ble_eq_true rfl) dX10_boundBy_51 ⟨Nat.le_of_ble_eq_true rfl, Nat.le_of_ble_eq_true rfl⟩ (fun r51 w51 H locs hp51 hw hS => ?_)
          obtain ⟨rfl, rfl⟩ := hp51
          first | refine xifb_eq (tgt := 60) hx hb dX10_boundBy_54 (by decide) (fun c54 => ?_) (fun c54 => ?_) | refine xif_eq (tgt := 60) hx hb dX10_boundBy_54 (by decide) (by omega) (fun c54 => ?_) (fun c54 => ?_) | refine lv_if_eq (tgt := 60) hx hb dX10_boundBy_54 (by decide) (fun c54 => ?_) (fun c54 => ?_)
          · skip
            refine xiload_n hx hb dX10_boundBy_60 hl rfl ?_
            refine lv_iconst (v := nI 1) hx hb dX10_boundBy_61 (by decide) ?_
            refine xiload hx hb dX10_boundBy_62 hl rfl ?_
            first | refine xshl hx hb dX10_boundBy_64 (by omega) ?_ | refine lv_ishl hx hb dX10_boundBy_64 ?_
            first | refine xor_ hx hb dX10_boundBy_65 ?_ | refine lv_ior hx hb dX10_boundBy_65 ?_
            refine xistore_n hx hb dX10_boundBy_66 hl (by decide) rfl (fun ls hl => ?_)
            refine xaload hx hb dX10_boundBy_67 hl rfl ?_
            have call69 : (∀ (H : Heap) (locs : List Loc), PW N0 G w H → va_S (fun q => N0 ≤ q) s.heap H locs → W p l e (rmD 3) s m ([.ref t0, .ref p0] : List Value).toArray below meth c H locs 0 0 (MQ below (XQ N0 G vI (fun r w1 => nI (bnd P lim h) = r ∧ w = w1)) ([.ref t0, .ref p0] : List Value).toArray s 0 0 (fun q => N0 ≤ q)) (F0 m 72 ls (.int (bI (decide (kd P (h.getD k 0) ≠ 3))) :: []))) → W p l e (rmD 3) s m ([.ref t0, .ref p0] : List Value).toArray below meth c H locs 0 0 (MQ below (XQ N0 G vI (fun r w1 => nI (bnd P lim h) = r ∧ w = w1)) ([.ref t0, .ref p0] : List Value).toArray s 0 0 (fun q => N0 ≤ q)) (F0 m 69 ls (.ref q :: [])) := by
              intro kk
              rcases kd_cases ((ht.kd hx5).1) with h5 | h5 | h5 | h5 | h5
              · have hq5 := hq
                rw [h5] at hq5
                refine xVi ⟨hx, hb, hml, hown, hts⟩ (kX7_canBeBound l N0 G w q) (cwV 0 hts gX10_boundBy_X7_canBeBound rfl rfl rfl (by decide +kernel) ⟨Nat.le_of_ble_eq_true rfl, Nat.le_of_ble_eq_true rfl⟩) hG hN hw hS (ci := 7) hq5 rfl rfl hl.1 rfl (Nat.le_of_ble_eq_true rfl) dX10_boundBy_69 ⟨Nat.le_of_ble_eq_true rfl, Nat.le_of_ble_eq_true rfl⟩ (fun r w1 H locs hp hw hS => ?_)
                obtain ⟨rfl, rfl⟩ := hp
                exact xtop (by first | (rw [h5]; rfl) | (unfold wrt; rw [h5]; rfl)) (kk _ _ hw hS)
              · have hq5 := hq
                rw [h5] at hq5
                refine xUi ⟨hx, hb, hml, hown, hts⟩ (kX7_canBeBound l N0 G w q) (va_cwU 0 hts gX10_boundBy_X7_canBeBound_u100X1 rfl rfl rfl rfl (by decide +kernel) ⟨Nat.le_of_ble_eq_true rfl, Nat.le_of_ble_eq_true rfl⟩) hG hN hw hS (ci := 1) hq5 rfl rfl hl.1 rfl (Nat.le_of_ble_eq_true rfl) dX10_boundBy_69 ⟨Nat.le_of_ble_eq_true rfl, Nat.le_of_ble_eq_true rfl⟩ (fun r w1 H locs hp hw hS => ?_)
                obtain ⟨rfl, rfl⟩ := hp
                exact xtop (by first | (rw [h5]; rfl) | (unfold wrt; rw [h5]; rfl)) (kk _ _ hw hS)
              · have hq5 := hq
                rw [h5] at hq5
                refine xUi ⟨hx, hb, hml, hown, hts⟩ (kX7_canBeBound l N0 G w q) (va_cwU 0 hts gX10_boundBy_X7_canBeBound_u100X9 rfl rfl rfl rfl (by decide +kernel) ⟨Nat.le_of_ble_eq_true rfl, Nat.le_of_ble_eq_true rfl⟩) hG hN hw hS (ci := 9) hq5 rfl rfl hl.1 rfl (Nat.le_of_ble_eq_true rfl) dX10_boundBy_69 ⟨Nat.le_of_ble_eq_true rfl, Nat.le_of_ble_eq_true rfl⟩ (fun r w1 H locs hp hw hS => ?_)
                obtain ⟨rfl, rfl⟩ := hp
                exact xtop (by first | (rw [h5]; rfl) | (unfold wrt; rw [h5]; rfl)) (kk _ _ hw hS)
              · have hq5 := hq
                rw [h5] at hq5
                refine xUi ⟨hx, hb, hml, hown, hts⟩ (kX3_canBeBound l N0 G w q) (va_cwO 0 hts gX10_boundBy_X3_canBeBound_u100X3 rfl rfl rfl (b0 := cX7_canBeBound) (m0 := 1) (r0 := some .boolean) (by decide +kernel) (by decide +kernel) ⟨Nat.le_of_ble_eq_true rfl, Nat.le_of_ble_eq_true rfl⟩) hG hN hw hS (ci := 3) hq5 rfl rfl hl.1 rfl (Nat.le_of_ble_eq_true rfl) dX10_boundBy_69 ⟨Nat.le_of_ble_eq_true rfl, Nat.le_of_ble_eq_true rfl⟩ (fun r w1 H locs hp hw hS => ?_)
                obtain ⟨rfl, rfl⟩ := hp
                exact xtop (by first | (rw [h5]; rfl) | (unfold wrt; rw [h5]; rfl)) (kk _ _ hw hS)
              · have hq5 := hq
                rw [h5] at hq5
                refine xUi ⟨hx, hb, hml, hown, hts⟩ (kX7_canBeBound l N0 G w q) (va_cwU 0 hts gX10_boundBy_X7_canBeBound_u100X0 rfl rfl rfl rfl (by decide +kernel) ⟨Nat.le_of_ble_eq_true rfl, Nat.le_of_ble_eq_true rfl⟩) hG hN hw hS (ci := 0) hq5 rfl rfl hl.1 rfl (Nat.le_of_ble_eq_true rfl) dX10_boundBy_69 ⟨Nat.le_of_ble_eq_true rfl, Nat.le_of_ble_eq_true rfl⟩ (fun r w1 H locs hp hw hS => ?_)
                obtain ⟨rfl, rfl⟩ := hp
                exact xtop (by first | (rw [h5]; rfl) | (unfold wrt; rw [h5]; rfl)) (kk _ _ hw hS)
            refine call69 (fun H locs hw hS => ?_)
            first | refine xifb_eq (tgt := 82) hx hb dX10_boundBy_72 (by decide) (fun c72 => ?_) (fun c72 => ?_) | refine xif_eq (tgt := 82) hx hb dX10_boundBy_72 (by decide) (by omega) (fun c72 => ?_) (fun c72 => ?_) | refine lv_if_eq (tgt := 82) hx hb dX10_boundBy_72 (by decide) (fun c72 => ?_) (fun c72 => ?_)
            · skip
              have e3 : kd P (h.getD k 0) = 3 := Decidable.not_not.mp (of_decide_eq_false c72)
              refine xaload hx hb dX10_boundBy_82 hl rfl ?_
              have call84 : (∀ (H : Heap) (locs : List Loc), PW N0 G w H → va_S (fun q => N0 ≤ q) s.heap H locs → W p l e (rmD 3) s m ([.ref t0, .ref p0] : List Value).toArray below meth c H locs 0 0 (MQ below (XQ N0 G vI (fun r w1 => nI (bnd P lim h) = r ∧ w = w1)) ([.ref t0, .ref p0] : List Value).toArray s 0 0 (fun q => N0 ≤ q)) (F0 m 87 ls (.int (bI (decide (kd P (h.getD k 0) = 2))) :: []))) → W p l e (rmD 3) s m ([.ref t0, .ref p0] : List Value).toArray below meth c H locs 0 0 (MQ below (XQ N0 G vI (fun r w1 => nI (bnd P lim h) = r ∧ w = w1)) ([.ref t0, .ref p0] : List Value).toArray s 0 0 (fun q => N0 ≤ q)) (F0 m 84 ls (.ref q :: [])) := by
                intro kk
                rcases kd_cases ((ht.kd hx5).1) with h5 | h5 | h5 | h5 | h5
                · have hq5 := hq
                  rw [h5] at hq5
                  refine xVi ⟨hx, hb, hml, hown, hts⟩ (kX7_endsTheRow l N0 G w q) (cwV 0 hts gX10_boundBy_X7_endsTheRow rfl rfl rfl (by decide +kernel) ⟨Nat.le_of_ble_eq_true rfl, Nat.le_of_ble_eq_true rfl⟩) hG hN hw hS (ci := 7) hq5 rfl rfl hl.1 rfl (Nat.le_of_ble_eq_true rfl) dX10_boundBy_84 ⟨Nat.le_of_ble_eq_true rfl, Nat.le_of_ble_eq_true rfl⟩ (fun r w1 H locs hp hw hS => ?_)
                  obtain ⟨rfl, rfl⟩ := hp
                  exact xtop (by first | (rw [h5]; rfl) | (unfold wrt; rw [h5]; rfl)) (kk _ _ hw hS)
                · have hq5 := hq
                  rw [h5] at hq5
                  refine xUi ⟨hx, hb, hml, hown, hts⟩ (kX7_endsTheRow l N0 G w q) (va_cwU 0 hts gX10_boundBy_X7_endsTheRow_u103X1 rfl rfl rfl rfl (by decide +kernel) ⟨Nat.le_of_ble_eq_true rfl, Nat.le_of_ble_eq_true rfl⟩) hG hN hw hS (ci := 1) hq5 rfl rfl hl.1 rfl (Nat.le_of_ble_eq_true rfl) dX10_boundBy_84 ⟨Nat.le_of_ble_eq_true rfl, Nat.le_of_ble_eq_true rfl⟩ (fun r w1 H locs hp hw hS => ?_)
                  obtain ⟨rfl, rfl⟩ := hp
                  exact xtop (by first | (rw [h5]; rfl) | (unfold wrt; rw [h5]; rfl)) (kk _ _ hw hS)
                · have hq5 := hq
                  rw [h5] at hq5
                  refine xUi ⟨hx, hb, hml, hown, hts⟩ (kX9_endsTheRow l N0 G w q) (va_cwO 0 hts gX10_boundBy_X9_endsTheRow_u103X9 rfl rfl rfl (b0 := cX7_endsTheRow) (m0 := 1) (r0 := some .boolean) (by decide +kernel) (by decide +kernel) ⟨Nat.le_of_ble_eq_true rfl, Nat.le_of_ble_eq_true rfl⟩) hG hN hw hS (ci := 9) hq5 rfl rfl hl.1 rfl (Nat.le_of_ble_eq_true rfl) dX10_boundBy_84 ⟨Nat.le_of_ble_eq_true rfl, Nat.le_of_ble_eq_true rfl⟩ (fun r w1 H locs hp hw hS => ?_)
                  obtain ⟨rfl, rfl⟩ := hp
                  exact xtop (by first | (rw [h5]; rfl) | (unfold wrt; rw [h5]; rfl)) (kk _ _ hw hS)
                · have hq5 := hq
                  rw [h5] at hq5
                  refine xUi ⟨hx, hb, hml, hown, hts⟩ (kX7_endsTheRow l N0 G w q) (va_cwU 0 hts gX10_boundBy_X7_endsTheRow_u103X3 rfl rfl rfl rfl (by decide +kernel) ⟨Nat.le_of_ble_eq_true rfl, Nat.le_of_ble_eq_true rfl⟩) hG hN hw hS (ci := 3) hq5 rfl rfl hl.1 rfl (Nat.le_of_ble_eq_true rfl) dX10_boundBy_84 ⟨Nat.le_of_ble_eq_true rfl, Nat.le_of_ble_eq_true rfl⟩ (fun r w1 H locs hp hw hS => ?_)
                  obtain ⟨rfl, rfl⟩ := hp
                  exact xtop (by first | (rw [h5]; rfl) | (unfold wrt; rw [h5]; rfl)) (kk _ _ hw hS)
                · have hq5 := hq
                  rw [h5] at hq5
                  refine xUi ⟨hx, hb, hml, hown, hts⟩ (kX7_endsTheRow l N0 G w q) (va_cwU 0 hts gX10_boundBy_X7_endsTheRow_u103X0 rfl rfl rfl rfl (by decide +kernel) ⟨Nat.le_of_ble_eq_true rfl, Nat.le_of_ble_eq_true rfl⟩) hG hN hw hS (ci := 0) hq5 rfl rfl hl.1 rfl (Nat.le_of_ble_eq_true rfl) dX10_boundBy_84 ⟨Nat.le_of_ble_eq_true rfl, Nat.le_of_ble_eq_true rfl⟩ (fun r w1 H locs hp hw hS => ?_)
                  obtain ⟨rfl, rfl⟩ := hp
                  exact xtop (by first | (rw [h5]; rfl) | (unfold wrt; rw [h5]; rfl)) (kk _ _ hw hS)
              refine call84 (fun H locs hw hS => ?_)
              first | refine xifb_eq (tgt := 93) hx hb dX10_boundBy_87 (by decide) (fun c87 => ?_) (fun c87 => ?_) | refine xif_eq (tgt := 93) hx hb dX10_boundBy_87 (by decide) (by omega) (fun c87 => ?_) (fun c87 => ?_) | refine lv_if_eq (tgt := 93) hx hb dX10_boundBy_87 (by decide) (fun c87 => ?_) (fun c87 => ?_)
              · skip
                have e2 : ¬ kd P (h.getD k 0) = 2 := of_decide_eq_false c87
                have hst := bF_new (P := P) (lim := lim) c54 hsn (by omega) c24 (h.drop (k + 1))
                rw [← drop_getD hk2] at hst
                first | rw [if_pos e3] at hst | rw [if_neg e3] at hst
                rw [if_neg e2] at hst
                rw [hst] at hinv
                first | refine xiincN hx hb 1 dX10_boundBy_93 hl rfl (by decide) (by decide) rfl (fun ls hl => ?_) | refine xiinc hx hb dX10_boundBy_93 hl rfl rfl (by decide) rfl (fun ls hl => ?_)
                refine lv_goto (tgt := 7) hx hb dX10_boundBy_96 (by decide) ?_
                exact ih7 (k + 1) _ _ _ _ _ (by omega) (by omega) (by first | exact hsn | exact or32 hsn (by omega)) (by first | exact hb32 | exact or32 hb32 (by omega)) (by first | rw [← hinv, drop_getD hk2, bF_seen c54] | rw [← hinv, Nat.zero_or] | rw [← hinv, Nat.or_assoc]) hw hS ((hl.drop 5).drop 6)
              · skip
                have e2 : kd P (h.getD k 0) = 2 := of_decide_eq_true c87
                have hst := bF_new (P := P) (lim := lim) c54 hsn (by omega) c24 (h.drop (k + 1))
                rw [← drop_getD hk2] at hst
                first | rw [if_pos e3] at hst | rw [if_neg e3] at hst
                rw [if_pos e2] at hst
                rw [hst] at hinv
                refine lv_goto (tgt := 99) hx hb dX10_boundBy_90 (by decide) ?_
                refine xiload_n hx hb dX10_boundBy_99 hl rfl ?_
                exact xiret hx hb hr hlk hw hS dX10_boundBy_100 ⟨congrArg nI (by first | rw [← hinv, List.drop_of_length_le (by omega), bF_nil, Nat.or_zero] | rw [← hinv, bF_full (by omega), Nat.or_zero] | (rw [← hinv]; simp only [Nat.or_zero, Nat.zero_or])), rfl⟩
            · skip
              have e3 : ¬ kd P (h.getD k 0) = 3 := of_decide_eq_true c72
              refine xiload_n hx hb dX10_boundBy_75 hl rfl ?_
              refine lv_iconst (v := nI 1) hx hb dX10_boundBy_76 (by decide) ?_
              refine xiload hx hb dX10_boundBy_77 hl rfl ?_
              first | refine xshl hx hb dX10_boundBy_79 (by omega) ?_ | refine lv_ishl hx hb dX10_boundBy_79 ?_
              first | refine xor_ hx hb dX10_boundBy_80 ?_ | refine lv_ior hx hb dX10_boundBy_80 ?_
              refine xistore_n hx hb dX10_boundBy_81 hl (by decide) rfl (fun ls hl => ?_)
              refine xaload hx hb dX10_boundBy_82 hl rfl ?_
              have call84 : (∀ (H : Heap) (locs : List Loc), PW N0 G w H → va_S (fun q => N0 ≤ q) s.heap H locs → W p l e (rmD 3) s m ([.ref t0, .ref p0] : List Value).toArray below meth c H locs 0 0 (MQ below (XQ N0 G vI (fun r w1 => nI (bnd P lim h) = r ∧ w = w1)) ([.ref t0, .ref p0] : List Value).toArray s 0 0 (fun q => N0 ≤ q)) (F0 m 87 ls (.int (bI (decide (kd P (h.getD k 0) = 2))) :: []))) → W p l e (rmD 3) s m ([.ref t0, .ref p0] : List Value).toArray below meth c H locs 0 0 (MQ below (XQ N0 G vI (fun r w1 => nI (bnd P lim h) = r ∧ w = w1)) ([.ref t0, .ref p0] : List Value).toArray s 0 0 (fun q => N0 ≤ q)) (F0 m 84 ls (.ref q :: [])) := by
                intro kk
                rcases kd_cases ((ht.kd hx5).1) with h5 | h5 | h5 | h5 | h5
                · have hq5 := hq
                  rw [h5] at hq5
                  refine xVi ⟨hx, hb, hml, hown, hts⟩ (kX7_endsTheRow l N0 G w q) (cwV 0 hts gX10_boundBy_X7_endsTheRow rfl rfl rfl (by decide +kernel) ⟨Nat.le_of_ble_eq_true rfl, Nat.le_of_ble_eq_true rfl⟩) hG hN hw hS (ci := 7) hq5 rfl rfl hl.1 rfl (Nat.le_of_ble_eq_true rfl) dX10_boundBy_84 ⟨Nat.le_of_ble_eq_true rfl, Nat.le_of_ble_eq_true rfl⟩ (fun r w1 H locs hp hw hS => ?_)
                  obtain ⟨rfl, rfl⟩ := hp
                  exact xtop (by first | (rw [h5]; rfl) | (unfold wrt; rw [h5]; rfl)) (kk _ _ hw hS)
                · have hq5 := hq
                  rw [h5] at hq5
                  refine xUi ⟨hx, hb, hml, hown, hts⟩ (kX7_endsTheRow l N0 G w q) (va_cwU 0 hts gX10_boundBy_X7_endsTheRow_u103X1 rfl rfl rfl rfl (by decide +kernel) ⟨Nat.le_of_ble_eq_true rfl, Nat.le_of_ble_eq_true rfl⟩) hG hN hw hS (ci := 1) hq5 rfl rfl hl.1 rfl (Nat.le_of_ble_eq_true rfl) dX10_boundBy_84 ⟨Nat.le_of_ble_eq_true rfl, Nat.le_of_ble_eq_true rfl⟩ (fun r w1 H locs hp hw hS => ?_)
                  obtain ⟨rfl, rfl⟩ := hp
                  exact xtop (by first | (rw [h5]; rfl) | (unfold wrt; rw [h5]; rfl)) (kk _ _ hw hS)
                · have hq5 := hq
                  rw [h5] at hq5
                  refine xUi ⟨hx, hb, hml, hown, hts⟩ (kX9_endsTheRow l N0 G w q) (va_cwO 0 hts gX10_boundBy_X9_endsTheRow_u103X9 rfl rfl rfl (b0 := cX7_endsTheRow) (m0 := 1) (r0 := some .boolean) (by decide +kernel) (by decide +kernel) ⟨Nat.le_of_ble_eq_true rfl, Nat.le_of_ble_eq_true rfl⟩) hG hN hw hS (ci := 9) hq5 rfl rfl hl.1 rfl (Nat.le_of_ble_eq_true rfl) dX10_boundBy_84 ⟨Nat.le_of_ble_eq_true rfl, Nat.le_of_ble_eq_true rfl⟩ (fun r w1 H locs hp hw hS => ?_)
                  obtain ⟨rfl, rfl⟩ := hp
                  exact xtop (by first | (rw [h5]; rfl) | (unfold wrt; rw [h5]; rfl)) (kk _ _ hw hS)
                · have hq5 := hq
                  rw [h5] at hq5
                  refine xUi ⟨hx, hb, hml, hown, hts⟩ (kX7_endsTheRow l N0 G w q) (va_cwU 0 hts gX10_boundBy_X7_endsTheRow_u103X3 rfl rfl rfl rfl (by decide +kernel) ⟨Nat.le_of_ble_eq_true rfl, Nat.le_of_ble_eq_true rfl⟩) hG hN hw hS (ci := 3) hq5 rfl rfl hl.1 rfl (Nat.le_of_ble_eq_true rfl) dX10_boundBy_84 ⟨Nat.le_of_ble_eq_true rfl, Nat.le_of_ble_eq_true rfl⟩ (fun r w1 H locs hp hw hS => ?_)
                  obtain ⟨rfl, rfl⟩ := hp
                  exact xtop (by first | (rw [h5]; rfl) | (unfold wrt; rw [h5]; rfl)) (kk _ _ hw hS)
                · have hq5 := hq
                  rw [h5] at hq5
                  refine xUi ⟨hx, hb, hml, hown, hts⟩ (kX7_endsTheRow l N0 G w q) (va_cwU 0 hts gX10_boundBy_X7_endsTheRow_u103X0 rfl rfl rfl rfl (by decide +kernel) ⟨Nat.le_of_ble_eq_true rfl, Nat.le_of_ble_eq_true rfl⟩) hG hN hw hS (ci := 0) hq5 rfl rfl hl.1 rfl (Nat.le_of_ble_eq_true rfl) dX10_boundBy_84 ⟨Nat.le_of_ble_eq_true rfl, Nat.le_of_ble_eq_true rfl⟩ (fun r w1 H locs hp hw hS => ?_)
                  obtain ⟨rfl, rfl⟩ := hp
                  exact xtop (by first | (rw [h5]; rfl) | (unfold wrt; rw [h5]; rfl)) (kk _ _ hw hS)
              refine call84 (fun H locs hw hS => ?_)
              first | refine xifb_eq (tgt := 93) hx hb dX10_boundBy_87 (by decide) (fun c87 => ?_) (fun c87 => ?_) | refine xif_eq (tgt := 93) hx hb dX10_boundBy_87 (by decide) (by omega) (fun c87 => ?_) (fun c87 => ?_) | refine lv_if_eq (tgt := 93) hx hb dX10_boundBy_87 (by decide) (fun c87 => ?_) (fun c87 => ?_)
              · skip
                have e2 : ¬ kd P (h.getD k 0) = 2 := of_decide_eq_false c87
                have hst := bF_new (P := P) (lim := lim) c54 hsn (by omega) c24 (h.drop (k + 1))
                rw [← drop_getD hk2] at hst
                first | rw [if_pos e3] at hst | rw [if_neg e3] at hst
                rw [if_neg e2] at hst
                rw [hst] at hinv
                first | refine xiincN hx hb 1 dX10_boundBy_93 hl rfl (by decide) (by decide) rfl (fun ls hl => ?_) | refine xiinc hx hb dX10_boundBy_93 hl rfl rfl (by decide) rfl (fun ls hl => ?_)
                refine lv_goto (tgt := 7) hx hb dX10_boundBy_96 (by decide) ?_
                exact ih7 (k + 1) _ _ _ _ _ (by omega) (by omega) (by first | exact hsn | exact or32 hsn (by omega)) (by first | exact hb32 | exact or32 hb32 (by omega)) (by first | rw [← hinv, drop_getD hk2, bF_seen c54] | rw [← hinv, Nat.zero_or] | rw [← hinv, Nat.or_assoc]) hw hS ((hl.drop 5).drop 6)
              · skip
                have e2 : kd P (h.getD k 0) = 2 := of_decide_eq_true c87
                have hst := bF_new (P := P) (lim := lim) c54 hsn (by omega) c24 (h.drop (k + 1))
                rw [← drop_getD hk2] at hst
                first | rw [if_pos e3] at hst | rw [if_neg e3] at hst
                rw [if_pos e2] at hst
                rw [hst] at hinv
                refine lv_goto (tgt := 99) hx hb dX10_boundBy_90 (by decide) ?_
                refine xiload_n hx hb dX10_boundBy_99 hl rfl ?_
                exact xiret hx hb hr hlk hw hS dX10_boundBy_100 ⟨congrArg nI (by first | rw [← hinv, List.drop_of_length_le (by omega), bF_nil, Nat.or_zero] | rw [← hinv, bF_full (by omega), Nat.or_zero] | (rw [← hinv]; simp only [Nat.or_zero, Nat.zero_or])), rfl⟩
          · skip
            refine lv_goto (tgt := 93) hx hb dX10_boundBy_57 (by decide) ?_
            first | refine xiincN hx hb 1 dX10_boundBy_93 hl rfl (by decide) (by decide) rfl (fun ls hl => ?_) | refine xiinc hx hb dX10_boundBy_93 hl rfl rfl (by decide) rfl (fun ls hl => ?_)
            refine lv_goto (tgt := 7) hx hb dX10_boundBy_96 (by decide) ?_
            exact ih7 (k + 1) _ _ _ _ _ (by omega) (by omega) (by first | exact hsn | exact or32 hsn (by omega)) (by first | exact hb32 | exact or32 hb32 (by omega)) (by first | rw [← hinv, drop_getD hk2, bF_seen c54] | rw [← hinv, Nat.zero_or] | rw [← hinv, Nat.or_assoc]) hw hS ((hl.drop 5).drop 6)
  exact loop7 (h.length + 1) 0 0 0 _ _ _ (by omega) (by omega) (by omega) (by omega) (by rw [List.drop_zero, Nat.zero_or]; exact bF_start P lim h) hw hS hl
set_option maxHeartbeats 4000000 in
set_option maxRecDepth 100000 in
theorem kX10_worthOf (l : Launch) (N0 : Nat) (G : XG) (w : Wd) (t0 Z : Nat) (P : PK) (lim : Nat) (ht : RTown G w t0 Z P lim) (b : Nat) (hb32 : b < 32) : XM l yX10_worthOf wsX10_worthOf (rmD 4) N0 G [.ref t0, .int (nI b)] w vI (fun r w1 => nI (sure P b P.length) = r ∧ w = w1) 0 0 := by
  refine XM.of (cc := cX10_worthOf) (maxL := 5) (ret := (some .int)) (by decide) rfl (Nat.le_of_ble_eq_true rfl) ?_
  intro p e s m below meth c hx hb hr hlk hin0 hml hown hts hN hw hG hS ls hl
  have hown : s.vm.findClass RX10 = some m.cls := hown
  have hiX10 : ∀ x ∈ u_ws RX10 TX10 3, x ∈ wsX10_worthOf := by decide +kernel
  have hlnk0 := hts (.fieldLink RX10 17 "LentQuill$Town" "size" "I") (by decide +kernel)
  have hlnk1 := hts (.initialized RX11) (by decide +kernel)
  have hlnk2 := hts (.static yX11_holds) (by decide +kernel)
  have hl : lh ls 5 [some (.ref t0), some (.int (nI b)), none, none, none] := hl
  obtain ⟨h5, hlim⟩ := ht.five
  obtain ⟨g, ht0, ht1, -, -, htp⟩ := id ht
  refine lv_iconst (v := nI 0) hx hb dX10_worthOf_0 (by decide) ?_
  refine xistore_n hx hb dX10_worthOf_1 hl (by decide) rfl (fun ls hl => ?_)
  refine lv_iconst (v := nI 0) hx hb dX10_worthOf_2 (by decide) ?_
  refine xistore_n hx hb dX10_worthOf_3 hl (by decide) rfl (fun ls hl => ?_)
  have loop4 : ∀ (nf : Nat) (i : Nat) (H : Heap) (locs : List Loc) (ls : Array Slot), P.length - i < nf → (i ≤ P.length) → PW N0 G w H → va_S (fun q => N0 ≤ q) s.heap H locs → lh ls 5 [some (.ref t0), some (.int (nI b)), some (.int (nI (sure P b i))), some (.int (nI i)), none] → W p l e (rmD 4) s m ([.ref t0, .int (nI b)] : List Value).toArray below meth c H locs 0 0 (MQ below (XQ N0 G vI (fun r w1 => nI (sure P b P.length) = r ∧ w = w1)) ([.ref t0, .int (nI b)] : List Value).toArray s 0 0 (fun q => N0 ≤ q)) (F0 m 4 ls []) := by
    intro nf
    induction nf with
    | zero => intros; omega
    | succ nf ih4 =>
      intro i H locs ls hnf hi hw hS hl
      refine xiload_n hx hb dX10_worthOf_4 hl rfl ?_
      refine xaload_n hx hb dX10_worthOf_5 hl rfl ?_
      refine xget (C := RX10) (T := TX10) (N := 3) hx hb (ci := 10) hts hiX10 hown hG hw (by repeat first | assumption | exact wu_eq _ _ _ | refine wu_ne (by omega) ?_) rfl 1 (by decide) hlnk0 (fun _ h9 => h9) rfl dX10_worthOf_6 ?_
      first | refine xcmp_ge (tgt := 46) hx hb dX10_worthOf_9 (by decide) (by omega) (by omega) (fun c9 => ?_) (fun c9 => ?_) | refine lv_icmp_ge (tgt := 46) hx hb dX10_worthOf_9 (by decide) (fun c9 => ?_) (fun c9 => ?_)
      · skip
        refine xiload_n hx hb dX10_worthOf_46 hl rfl ?_
        exact xiret hx hb hr hlk hw hS dX10_worthOf_47 ⟨by rw [show i = P.length by omega], rfl⟩
      · skip
        refine xaload_n hx hb dX10_worthOf_12 hl rfl ?_
        refine xiload_n hx hb dX10_worthOf_13 hl rfl ?_
        refine xVr ⟨hx, hb, hml, hown, hts⟩ (kX10_one l N0 G _ _ Z P lim ht i c9) (cwV 1 hts gX10_worthOf_X10_one rfl rfl rfl (by decide +kernel) ⟨Nat.le_of_ble_eq_true rfl, Nat.le_of_ble_eq_true rfl⟩) hG hN hw hS (ci := 10) (by repeat first | assumption | exact wu_eq _ _ _ | refine wu_ne (by omega) ?_) rfl rfl hl.1 rfl (Nat.le_of_ble_eq_true rfl) dX10_worthOf_14 ⟨Nat.le_of_ble_eq_true rfl, Nat.le_of_ble_eq_true rfl⟩ (fun r14 w14 H locs hp14 hw hS => ?_)
        obtain ⟨⟨q, rfl, hqZ, hq⟩, rfl⟩ := hp14
        refine xrf rfl ?_
        refine xastore hx hb dX10_worthOf_17 hl (by decide) rfl (fun ls hl => ?_)
        refine xaload hx hb dX10_worthOf_19 hl rfl ?_
        refine lv_ifnull hx hb dX10_worthOf_21 ?_
        refine xiload_n hx hb dX10_worthOf_24 hl rfl ?_
        refine xiload_n hx hb dX10_worthOf_25 hl rfl ?_
        refine xSNi ⟨hx, hb, hml, hown, hts⟩ (kX11_holds l N0 G _ b i hb32 (by omega)) ⟨(va_cnB (host := "LentQuill") 2 hts gX10_worthOf_X11_holds_n96 rfl rfl rfl (hG.2.1 (.methodLinkNest RX10 96 yX11_holds "LentQuill") (by decide +kernel)) hlnk1 (by decide +kernel) ⟨Nat.le_of_ble_eq_true rfl, Nat.le_of_ble_eq_true rfl⟩), hlnk2, trivial⟩ hG hN hw hS rfl hl.1 rfl (Nat.le_of_ble_eq_true rfl) dX10_worthOf_26 ⟨Nat.le_of_ble_eq_true rfl, Nat.le_of_ble_eq_true rfl⟩ (fun r26 w26 H locs hp26 hw hS => ?_)
        obtain ⟨rfl, rfl⟩ := hp26
        first | refine xifb_eq (tgt := 40) hx hb dX10_worthOf_29 (by decide) (fun c29 => ?_) (fun c29 => ?_) | refine xif_eq (tgt := 40) hx hb dX10_worthOf_29 (by decide) (by omega) (fun c29 => ?_) (fun c29 => ?_) | refine lv_if_eq (tgt := 40) hx hb dX10_worthOf_29 (by decide) (fun c29 => ?_) (fun c29 => ?_)
        · skip
          first | refine xiincN hx hb 1 dX10_worthOf_40 hl rfl (by decide) (by decide) rfl (fun ls hl => ?_) | refine xiinc hx hb dX10_worthOf_40 hl rfl rfl (by decide) rfl (fun ls hl => ?_)
          refine lv_goto (tgt := 4) hx hb dX10_worthOf_43 (by decide) ?_
          exact ih4 (i + 1) _ _ _ (by omega) (by omega) hw hS (by
            have e : sure P b (i + 1) = _ := sure_s P b i
            rw [c29] at e
            rw [e]
            exact hl.drop 4)
        · skip
          refine xiload_n hx hb dX10_worthOf_32 hl rfl ?_
          refine xaload hx hb dX10_worthOf_33 hl rfl ?_
          have call35 : (∀ (H : Heap) (locs : List Loc), PW N0 G w H → va_S (fun q => N0 ≤ q) s.heap H locs → W p l e (rmD 4) s m ([.ref t0, .int (nI b)] : List Value).toArray below meth c H locs 0 0 (MQ below (XQ N0 G vI (fun r w1 => nI (sure P b P.length) = r ∧ w = w1)) ([.ref t0, .int (nI b)] : List Value).toArray s 0 0 (fun q => N0 ≤ q)) (F0 m 38 ls (.int (nI (wrt P i)) :: [.int (nI (sure P b i))]))) → W p l e (rmD 4) s m ([.ref t0, .int (nI b)] : List Value).toArray below meth c H locs 0 0 (MQ below (XQ N0 G vI (fun r w1 => nI (sure P b P.length) = r ∧ w = w1)) ([.ref t0, .int (nI b)] : List Value).toArray s 0 0 (fun q => N0 ≤ q)) (F0 m 35 ls (.ref q :: [.int (nI (sure P b i))])) := by
            intro kk
            rcases kd_cases ((ht.kd c9).1) with h5 | h5 | h5 | h5 | h5
            · have hq5 := hq
              rw [h5] at hq5
              refine xVi ⟨hx, hb, hml, hown, hts⟩ (kX7_worth_7 l N0 G w q _ hq5) (cwV 0 hts gX10_worthOf_X7_worth rfl rfl rfl (by decide +kernel) ⟨Nat.le_of_ble_eq_true rfl, Nat.le_of_ble_eq_true rfl⟩) hG hN hw hS (ci := 7) hq5 rfl rfl hl.1 rfl (Nat.le_of_ble_eq_true rfl) dX10_worthOf_35 ⟨Nat.le_of_ble_eq_true rfl, Nat.le_of_ble_eq_true rfl⟩ (fun r w1 H locs hp hw hS => ?_)
              obtain ⟨rfl, rfl⟩ := hp
              exact xtop (by first | (rw [h5]; rfl) | (unfold wrt; rw [h5]; rfl)) (kk _ _ hw hS)
            · have hq5 := hq
              rw [h5] at hq5
              refine xUi ⟨hx, hb, hml, hown, hts⟩ (kX7_worth_1 l N0 G w q _ hq5) (va_cwU 0 hts gX10_worthOf_X7_worth_u106X1 rfl rfl rfl rfl (by decide +kernel) ⟨Nat.le_of_ble_eq_true rfl, Nat.le_of_ble_eq_true rfl⟩) hG hN hw hS (ci := 1) hq5 rfl rfl hl.1 rfl (Nat.le_of_ble_eq_true rfl) dX10_worthOf_35 ⟨Nat.le_of_ble_eq_true rfl, Nat.le_of_ble_eq_true rfl⟩ (fun r w1 H locs hp hw hS => ?_)
              obtain ⟨rfl, rfl⟩ := hp
              exact xtop (by first | (rw [h5]; rfl) | (unfold wrt; rw [h5]; rfl)) (kk _ _ hw hS)
            · have hq5 := hq
              rw [h5] at hq5
              refine xUi ⟨hx, hb, hml, hown, hts⟩ (kX7_worth_9 l N0 G w q _ hq5) (va_cwU 0 hts gX10_worthOf_X7_worth_u106X9 rfl rfl rfl rfl (by decide +kernel) ⟨Nat.le_of_ble_eq_true rfl, Nat.le_of_ble_eq_true rfl⟩) hG hN hw hS (ci := 9) hq5 rfl rfl hl.1 rfl (Nat.le_of_ble_eq_true rfl) dX10_worthOf_35 ⟨Nat.le_of_ble_eq_true rfl, Nat.le_of_ble_eq_true rfl⟩ (fun r w1 H locs hp hw hS => ?_)
              obtain ⟨rfl, rfl⟩ := hp
              exact xtop (by first | (rw [h5]; rfl) | (unfold wrt; rw [h5]; rfl)) (kk _ _ hw hS)
            · have hq5 := hq
              rw [h5] at hq5
              refine xUi ⟨hx, hb, hml, hown, hts⟩ (kX7_worth_3 l N0 G w q _ hq5) (va_cwU 0 hts gX10_worthOf_X7_worth_u106X3 rfl rfl rfl rfl (by decide +kernel) ⟨Nat.le_of_ble_eq_true rfl, Nat.le_of_ble_eq_true rfl⟩) hG hN hw hS (ci := 3) hq5 rfl rfl hl.1 rfl (Nat.le_of_ble_eq_true rfl) dX10_worthOf_35 ⟨Nat.le_of_ble_eq_true rfl, Nat.le_of_ble_eq_true rfl⟩ (fun r w1 H locs hp hw hS => ?_)
              obtain ⟨rfl, rfl⟩ := hp
              exact xtop (by first | (rw [h5]; rfl) | (unfold wrt; rw [h5]; rfl)) (kk _ _ hw hS)
            · have hq5 := hq
              rw [h5] at hq5
              refine xUi ⟨hx, hb, hml, hown, hts⟩ (kX0_worth l N0 G w q _ hq5) (va_cwO 0 hts gX10_worthOf_X0_worth_u106X0 rfl rfl rfl (b0 := cX7_worth) (m0 := 1) (r0 := some .int) (by decide +kernel) (by decide +kernel) ⟨Nat.le_of_ble_eq_true rfl, Nat.le_of_ble_eq_true rfl⟩) hG hN hw hS (ci := 0) hq5 rfl rfl hl.1 rfl (Nat.le_of_ble_eq_true rfl) dX10_worthOf_35 ⟨Nat.le_of_ble_eq_true rfl, Nat.le_of_ble_eq_true rfl⟩ (fun r w1 H locs hp hw hS => ?_)
              obtain ⟨rfl, rfl⟩ := hp
              exact xtop (by first | (rw [h5]; rfl) | (unfold wrt; rw [h5]; rfl)) (kk _ _ hw hS)
          refine call35 (fun H locs hw hS => ?_)
          first | refine xadd hx hb dX10_worthOf_38 ?_ | refine lv_iadd hx hb dX10_worthOf_38 ?_
          refine xistore_n hx hb dX10_worthOf_39 hl (by decide) rfl (fun ls hl => ?_)
          first | refine xiincN hx hb 1 dX10_worthOf_40 hl rfl (by decide) (by decide) rfl (fun ls hl => ?_) | refine xiinc hx hb dX10_worthOf_40 hl rfl rfl (by decide) rfl (fun ls hl => ?_)
          refine lv_goto (tgt := 4) hx hb dX10_worthOf_43 (by decide) ?_
          exact ih4 (i + 1) _ _ _ (by omega) (by omega) hw hS (by
            have e : sure P b (i + 1) = _ := sure_s P b i
            rw [c29] at e
            rw [e]
            exact hl.drop 4)
  exact loop4 (P.length + 1) 0 _ _ _ (by omega) (by omega) hw hS hl
