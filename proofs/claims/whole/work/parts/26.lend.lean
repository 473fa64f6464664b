theorem tl_f {L : List Nat} {f t : Nat} (hnd : L.Nodup) (hall : ∀ x ∈ L, x < 5) (ht : t < 5) (hf : f ≤ L.length) (hno : ∀ j, j < f → L.getD j 0 ≠ t) (h5 : L.length ≤ 5) : f ≤ 4 := by
  rcases (show f < L.length ∨ f = L.length by omega) with q | q
  · omega
  · have hn : t ∉ L := fun hm => by
      obtain ⟨j, hj, e⟩ := List.mem_iff_getElem.mp hm
      refine hno j (by omega) ?_
      rw [List.getD_eq_getElem?_getD, List.getElem?_eq_getElem hj]
      exact e
    have h9 : (t :: L).length ≤ 5 := nodup_le (List.nodup_cons.mpr ⟨hn, hnd⟩) (fun x hx => by
      rcases List.mem_cons.mp hx with z | z
      · rw [z]; exact ht
      · exact hall x z)
    rw [List.length_cons] at h9
    omega
theorem tl_lent {A A1 : Nat → Nat → Int32} {i f t g : Nat} {L : List Nat} {x : Int32} (hT : Tl A i L (nI g)) (hnd : L.Nodup) (hf : f ≤ L.length) (hno : ∀ j, j < f → L.getD j 0 ≠ t) (hfd : f < L.length → L.getD f 0 = t) (hf4 : f ≤ 4) (h11 : A1 11 i = nI (L.length + (if f = L.length then 1 else 0))) (h10 : ∀ j, j < 5 → A1 10 (5 * i + j) = if 0 < j ∧ j ≤ f then A 10 (5 * i + (j - 1)) else A 10 (5 * i + j)) (h5 : L.length ≤ 5 := by omega) : Tl (va_up (va_up A1 10 (upd (A1 10) (5 * i) (nI t))) 12 (upd (A1 12) i x)) i (t :: L.filter (fun y => decide (y ≠ t))) x := by
  obtain ⟨hl, hg⟩ := flt_at hnd hf hno hfd
  refine ⟨?_, by rw [vup_eq, upd_at], fun j hj => ?_⟩
  · rw [vup_ne _ _ (by omega), vup_ne _ _ (by omega), h11, List.length_cons, hl]
    by_cases q : f = L.length
    · rw [if_pos q, if_pos q]
    · rw [if_neg q, if_neg q]
      congr 1
      omega
  · rw [vup_ne _ _ (by omega), vup_eq]
    cases j with
    | zero => exact upd_at _ _ _
    | succ j =>
      rw [List.length_cons, hl] at hj
      rw [upd_no (by omega), List.getD_cons_succ, hg j]
      by_cases q : f = L.length
      · rw [if_pos q] at hj
        rw [h10 (j + 1) (by omega), if_pos (by omega), if_pos (by omega)]
        exact hT.2.2 j (by omega)
      · rw [if_neg q] at hj
        rw [h10 (j + 1) (by omega)]
        by_cases q2 : j < f
        · rw [if_pos q2, if_pos (by omega)]
          exact hT.2.2 j (by omega)
        · rw [if_neg q2, if_neg (by omega)]
          exact hT.2.2 (j + 1) (by omega)
set_option maxHeartbeats 4000000 in
set_option maxRecDepth 100000 in
theorem kX12_mayThink (l : Launch) (N0 : Nat) (G : XG) (w : Wd) (M0 : Nat) (V : Nat → Value) (A : Nat → Nat → Int32) (hM : MW G w M0 V A) (S : QS) (hR : RM S V A) (hL : WB S) (i : Nat) (hi : i < sn S) (h : List Nat) (hT : Tl A i (dd h) (nI (h.length - 1))) (hh1 : 1 ≤ h.length) (hh41 : h.length ≤ 41) (hall : ∀ x ∈ h, x < sn S) (t : Nat) (ht5 : t < 5) : XM l yX12_mayThink wsX12_mayThink (rmD 2) N0 G [.ref M0, .int (nI i), .int (nI t)] w vI (fun r w1 => bI (mayL (sP S) h t) = r ∧ w = w1) 0 0 := by
  refine XM.of (cc := cX12_mayThink) (maxL := 4) (ret := (some .boolean)) (by decide) rfl (Nat.le_of_ble_eq_true rfl) ?_
  intro p e s m below meth c hx hb hr hlk hin0 hml hown hts hN hw hG hS ls hl
  have hown : s.vm.findClass RX12 = some m.cls := hown
  have hiX12 : ∀ x ∈ u_ws RX12 TX12 37, x ∈ wsX12_mayThink := by decide +kernel
  have hlnk0 := hts (.fieldLink RX12 38 "LentQuillModel" "lastOf" "[I") (by decide +kernel)
  have hlnk1 := hts (.fieldLink RX12 44 "LentQuillModel" "goneOf" "[I") (by decide +kernel)
  have hl : lh ls 4 [some (.ref M0), some (.int (nI i)), some (.int (nI t)), none] := hl
  obtain ⟨hm0, ⟨hv3, hv4, hv5, hv6, hv8, hv9, hv11, hv12, hv15, hv18, hv19, hv20, hv24, hv30, hv31, hv32, hv33, hv34, hv35⟩, ha1, ha2, ha3, ha4, ha5, ha6, ha7, ha8, ha9, ha10, ha11, ha12, ha13, ha14, ha15, ha16, ha17, ha18, ha19⟩ := id hM
  obtain ⟨ht, hn, hlm, hdn, hhn, has, hpl, hkw, hRB, hpg, hkp⟩ := id hR
  obtain ⟨hn5, hl5, hkd, hsp, hd6, hdw, hh6, hg18, hgr, hIm⟩ := id hL
  have hh0 : h.getD 0 0 < sn S := getD_lt hall (by omega)
  have hdp : 0 < (dd h).length := dd_pos (fun e => by rw [e] at hh1; exact absurd hh1 (by decide))
  have h10 : A 10 (5 * i) = nI (h.getD 0 0) := (hT.2.2 0 hdp).trans (congrArg nI (dd_head h))
  refine xaload_n hx hb dX12_mayThink_0 hl rfl ?_
  refine xgetM hx hb hts hiX12 hown hG hw (by repeat first | assumption | exact wu_eq _ _ _ | refine wu_ne (by omega) ?_) 18 (by decide) hlnk0 (by repeat first | assumption | exact vu_eq _ _ _ | refine vu_ne (by decide) ?_) dX12_mayThink_1 ?_
  refine lv_iconst (v := nI 5) hx hb dX12_mayThink_4 (by decide) ?_
  refine xiload_n hx hb dX12_mayThink_5 hl rfl ?_
  first | refine xmul hx hb dX12_mayThink_6 ?_ | refine lv_imul hx hb dX12_mayThink_6 ?_
  refine xiald hx hb hG hw (by repeat first | assumption | exact wu_eq _ _ _ | refine wu_ne (by omega) ?_) (by omega) (by omega) dX12_mayThink_7 ?_
  refine xtop h10 ?_
  refine xistore_n hx hb dX12_mayThink_8 hl (by decide) rfl (fun ls hl => ?_)
  refine xiload_n hx hb dX12_mayThink_9 hl rfl ?_
  refine xiload_n hx hb dX12_mayThink_10 hl rfl ?_
  first | refine xcmp_eq (tgt := 37) hx hb dX12_mayThink_11 (by decide) (by omega) (by omega) (fun c11 => ?_) (fun c11 => ?_) | refine lv_icmp_eq (tgt := 37) hx hb dX12_mayThink_11 (by decide) (fun c11 => ?_) (fun c11 => ?_)
  · skip
    refine lv_iconst (v := nI 0) hx hb dX12_mayThink_37 (by decide) ?_
    first | exact xzret hx hb hr hlk hw hS dX12_mayThink_38 true rfl ⟨congrArg bI (decide_eq_true (⟨by omega, c19, by omega⟩)), rfl⟩ | exact xzret hx hb hr hlk hw hS dX12_mayThink_38 false rfl ⟨congrArg bI (decide_eq_false (fun q => by first | exact q.1 c11 | exact absurd (q.2.1.symm.trans c19) (by decide) | (have := q.2.2; omega))), rfl⟩
  · skip
    refine xaload_n hx hb dX12_mayThink_14 hl rfl ?_
    refine xiload_n hx hb dX12_mayThink_15 hl rfl ?_
    refine xVi ⟨hx, hb, hml, hown, hts⟩ (kX12_isChurch l N0 G _ _ V A hM S hR hL _ hh0) (cwV 1 hts gX12_mayThink_X12_isChurch rfl rfl rfl (by decide +kernel) ⟨Nat.le_of_ble_eq_true rfl, Nat.le_of_ble_eq_true rfl⟩) hG hN hw hS (ci := 12) (by repeat first | assumption | exact wu_eq _ _ _ | refine wu_ne (by omega) ?_) rfl rfl hl.1 rfl (Nat.le_of_ble_eq_true rfl) dX12_mayThink_16 ⟨Nat.le_of_ble_eq_true rfl, Nat.le_of_ble_eq_true rfl⟩ (fun r16 w16 H locs hp16 hw hS => ?_)
    obtain ⟨rfl, rfl⟩ := hp16
    first | refine xifb_ne (tgt := 37) hx hb dX12_mayThink_19 (by decide) (fun c19 => ?_) (fun c19 => ?_) | refine xif_ne (tgt := 37) hx hb dX12_mayThink_19 (by decide) (by omega) (fun c19 => ?_) (fun c19 => ?_) | refine lv_if_ne (tgt := 37) hx hb dX12_mayThink_19 (by decide) (fun c19 => ?_) (fun c19 => ?_)
    · skip
      refine lv_iconst (v := nI 0) hx hb dX12_mayThink_37 (by decide) ?_
      first | exact xzret hx hb hr hlk hw hS dX12_mayThink_38 true rfl ⟨congrArg bI (decide_eq_true (⟨by omega, c19, by omega⟩)), rfl⟩ | exact xzret hx hb hr hlk hw hS dX12_mayThink_38 false rfl ⟨congrArg bI (decide_eq_false (fun q => by first | exact q.1 c11 | exact absurd (q.2.1.symm.trans c19) (by decide) | (have := q.2.2; omega))), rfl⟩
    · skip
      refine xaload_n hx hb dX12_mayThink_22 hl rfl ?_
      refine xgetM hx hb hts hiX12 hown hG hw (by repeat first | assumption | exact wu_eq _ _ _ | refine wu_ne (by omega) ?_) 20 (by decide) hlnk1 (by repeat first | assumption | exact vu_eq _ _ _ | refine vu_ne (by decide) ?_) dX12_mayThink_23 ?_
      refine xiload_n hx hb dX12_mayThink_26 hl rfl ?_
      refine xiald hx hb hG hw (by repeat first | assumption | exact wu_eq _ _ _ | refine wu_ne (by omega) ?_) (by omega) (by omega) dX12_mayThink_27 ?_
      refine xtop hT.2.1 ?_
      refine lv_bipush (v := nI 40) hx hb dX12_mayThink_28 (by decide) ?_
      first | refine xcmp_ge (tgt := 37) hx hb dX12_mayThink_30 (by decide) (by omega) (by omega) (fun c30 => ?_) (fun c30 => ?_) | refine lv_icmp_ge (tgt := 37) hx hb dX12_mayThink_30 (by decide) (fun c30 => ?_) (fun c30 => ?_)
      · skip
        refine lv_iconst (v := nI 0) hx hb dX12_mayThink_37 (by decide) ?_
        first | exact xzret hx hb hr hlk hw hS dX12_mayThink_38 true rfl ⟨congrArg bI (decide_eq_true (⟨by omega, c19, by omega⟩)), rfl⟩ | exact xzret hx hb hr hlk hw hS dX12_mayThink_38 false rfl ⟨congrArg bI (decide_eq_false (fun q => by first | exact q.1 c11 | exact absurd (q.2.1.symm.trans c19) (by decide) | (have := q.2.2; omega))), rfl⟩
      · skip
        refine lv_iconst (v := nI 1) hx hb dX12_mayThink_33 (by decide) ?_
        refine lv_goto (tgt := 38) hx hb dX12_mayThink_34 (by decide) ?_
        first | exact xzret hx hb hr hlk hw hS dX12_mayThink_38 true rfl ⟨congrArg bI (decide_eq_true (⟨by omega, c19, by omega⟩)), rfl⟩ | exact xzret hx hb hr hlk hw hS dX12_mayThink_38 false rfl ⟨congrArg bI (decide_eq_false (fun q => by first | exact q.1 c11 | exact absurd (q.2.1.symm.trans c19) (by decide) | (have := q.2.2; omega))), rfl⟩
set_option maxHeartbeats 4000000 in
set_option maxRecDepth 100000 in
theorem kX12_thinkLent (l : Launch) (N0 : Nat) (G : XG) (w : Wd) (M0 : Nat) (V : Nat → Value) (A : Nat → Nat → Int32) (hM : MW G w M0 V A) (S : QS) (hR : RM S V A) (hL : WB S) (i : Nat) (hi : i < sn S) (L : List Nat) (g : Nat) (hT : Tl A i L (nI g)) (hnd : L.Nodup) (hall : ∀ x ∈ L, x < 5) (t : Nat) (ht5 : t < 5) : XM l yX12_thinkLent wsX12_thinkLent (rmD 1) N0 G [.ref M0, .int (nI i), .int (nI t)] w vV (fun _ w1 => ∃ A1, MW G w1 M0 V A1 ∧ Nk A A1 i ∧ Tl A1 i (t :: L.filter (fun y => decide (y ≠ t))) (nI (g + 1)) ∧ Out w w1 M0 (M0 + 20)) 0 0 := by
  refine XM.of (cc := cX12_thinkLent) (maxL := 5) (ret := none) (by decide) rfl (Nat.le_of_ble_eq_true rfl) ?_
  intro p e s m below meth c hx hb hr hlk hin0 hml hown hts hN hw hG hS ls hl
  have hown : s.vm.findClass RX12 = some m.cls := hown
  have hiX12 : ∀ x ∈ u_ws RX12 TX12 37, x ∈ wsX12_thinkLent := by decide +kernel
  have hlnk0 := hts (.fieldLink RX12 41 "LentQuillModel" "lastMany" "[I") (by decide +kernel)
  have hlnk1 := hts (.fieldLink RX12 38 "LentQuillModel" "lastOf" "[I") (by decide +kernel)
  have hlnk2 := hts (.fieldLink RX12 44 "LentQuillModel" "goneOf" "[I") (by decide +kernel)
  have hl : lh ls 5 [some (.ref M0), some (.int (nI i)), some (.int (nI t)), none, none] := hl
  obtain ⟨hm0, ⟨hv3, hv4, hv5, hv6, hv8, hv9, hv11, hv12, hv15, hv18, hv19, hv20, hv24, hv30, hv31, hv32, hv33, hv34, hv35⟩, ha1, ha2, ha3, ha4, ha5, ha6, ha7, ha8, ha9, ha10, ha11, ha12, ha13, ha14, ha15, ha16, ha17, ha18, ha19⟩ := id hM
  obtain ⟨ht, hn, hlm, hdn, hhn, has, hpl, hkw, hRB, hpg, hkp⟩ := id hR
  obtain ⟨hn5, hl5, hkd, hsp, hd6, hdw, hh6, hg18, hgr, hIm⟩ := id hL
  have hL5 : L.length ≤ 5 := nodup_le hnd hall
  refine lv_iconst (v := nI 0) hx hb dX12_thinkLent_0 (by decide) ?_
  refine xistore_n hx hb dX12_thinkLent_1 hl (by decide) rfl (fun ls hl => ?_)
  have loop2 : ∀ (nf : Nat) (f : Nat) (H : Heap) (locs : List Loc) (ls : Array Slot), L.length - f < nf → (f ≤ L.length) → (∀ j, j < f → L.getD j 0 ≠ t) → PW N0 G w H → va_S (fun q => N0 ≤ q) s.heap H locs → lh ls 5 [some (.ref M0), some (.int (nI i)), some (.int (nI t)), some (.int (nI f)), none] → W p l e (rmD 1) s m ([.ref M0, .int (nI i), .int (nI t)] : List Value).toArray below meth c H locs 0 0 (MQ below (XQ N0 G vV (fun _ w1 => ∃ A1, MW G w1 M0 V A1 ∧ Nk A A1 i ∧ Tl A1 i (t :: L.filter (fun y => decide (y ≠ t))) (nI (g + 1)) ∧ Out w w1 M0 (M0 + 20))) ([.ref M0, .int (nI i), .int (nI t)] : List Value).toArray s 0 0 (fun q => N0 ≤ q)) (F0 m 2 ls []) := by
    intro nf
    induction nf with
    | zero => intros; omega
    | succ nf ih2 =>
      intro f H locs ls hnf hf hno hw hS hl
      refine xiload_n hx hb dX12_thinkLent_2 hl rfl ?_
      refine xaload_n hx hb dX12_thinkLent_3 hl rfl ?_
      refine xgetM hx hb hts hiX12 hown hG hw (by repeat first | assumption | exact wu_eq _ _ _ | refine wu_ne (by omega) ?_) 19 (by decide) hlnk0 (by repeat first | assumption | exact vu_eq _ _ _ | refine vu_ne (by decide) ?_) dX12_thinkLent_4 ?_
      refine xiload_n hx hb dX12_thinkLent_7 hl rfl ?_
      refine xiald hx hb hG hw (by repeat first | assumption | exact wu_eq _ _ _ | refine wu_ne (by omega) ?_) (by omega) (by omega) dX12_thinkLent_8 ?_
      refine xtop hT.1 ?_
      first | refine xcmp_ge (tgt := 32) hx hb dX12_thinkLent_9 (by decide) (by omega) (by omega) (fun c9 => ?_) (fun c9 => ?_) | refine lv_icmp_ge (tgt := 32) hx hb dX12_thinkLent_9 (by decide) (fun c9 => ?_) (fun c9 => ?_)
      · skip
        have hfd : f < L.length → L.getD f 0 = t := by first | exact fun _ => c23 | (intro q; omega)
        have hf4 : f ≤ 4 := tl_f hnd hall ht5 hf hno hL5
        refine xaload_n hx hb dX12_thinkLent_32 hl rfl ?_
        refine xgetM hx hb hts hiX12 hown hG hw (by repeat first | assumption | exact wu_eq _ _ _ | refine wu_ne (by omega) ?_) 19 (by decide) hlnk0 (by repeat first | assumption | exact vu_eq _ _ _ | refine vu_ne (by decide) ?_) dX12_thinkLent_33 ?_
        refine xiload_n hx hb dX12_thinkLent_36 hl rfl ?_
        first | refine lv_dup2_11 hx hb dX12_thinkLent_37 rfl rfl ?_ | refine lv_dup2_2 hx hb dX12_thinkLent_37 rfl ?_
        refine xiald hx hb hG hw (by repeat first | assumption | exact wu_eq _ _ _ | refine wu_ne (by omega) ?_) (by omega) (by omega) dX12_thinkLent_38 ?_
        refine xtop hT.1 ?_
        refine xiload_n hx hb dX12_thinkLent_39 hl rfl ?_
        refine xaload_n hx hb dX12_thinkLent_40 hl rfl ?_
        refine xgetM hx hb hts hiX12 hown hG hw (by repeat first | assumption | exact wu_eq _ _ _ | refine wu_ne (by omega) ?_) 19 (by decide) hlnk0 (by repeat first | assumption | exact vu_eq _ _ _ | refine vu_ne (by decide) ?_) dX12_thinkLent_41 ?_
        refine xiload_n hx hb dX12_thinkLent_44 hl rfl ?_
        refine xiald hx hb hG hw (by repeat first | assumption | exact wu_eq _ _ _ | refine wu_ne (by omega) ?_) (by omega) (by omega) dX12_thinkLent_45 ?_
        refine xtop hT.1 ?_
        first | refine xcmp_ne (tgt := 53) hx hb dX12_thinkLent_46 (by decide) (by omega) (by omega) (fun c46 => ?_) (fun c46 => ?_) | refine lv_icmp_ne (tgt := 53) hx hb dX12_thinkLent_46 (by decide) (fun c46 => ?_) (fun c46 => ?_)
        · skip
          refine lv_iconst (v := nI 0) hx hb dX12_thinkLent_53 (by decide) ?_
          refine xtop (y := nI (if f = L.length then 1 else 0)) (by first | rw [if_pos c46] | rw [if_neg c46]) ?_
          first | refine xadd hx hb dX12_thinkLent_54 ?_ | refine lv_iadd hx hb dX12_thinkLent_54 ?_
          refine xiast hx hb hG hw hS (by repeat first | assumption | exact wu_eq _ _ _ | refine wu_ne (by omega) ?_) (by omega) (by omega) dX12_thinkLent_55 (fun H locs hzz hw hS => ?_)
          refine xiload_n hx hb dX12_thinkLent_56 hl rfl ?_
          refine xistore hx hb dX12_thinkLent_57 hl (by decide) rfl (fun ls hl => ?_)
          have loop59 : ∀ (nf : Nat) (k : Nat) (A1 : Nat → Nat → Int32) (w1 : Wd) (H : Heap) (locs : List Loc) (ls : Array Slot), k < nf → (k ≤ f) → (MW G w1 M0 V A1) → (Nk A A1 i) → (A1 11 i = nI (L.length + (if f = L.length then 1 else 0))) → (A1 12 i = nI g) → (∀ j, j < 5 → A1 10 (5 * i + j) = if k < j ∧ j ≤ f then A 10 (5 * i + (j - 1)) else A 10 (5 * i + j)) → (Out w w1 M0 (M0 + 20)) → PW N0 G w1 H → va_S (fun q => N0 ≤ q) s.heap H locs → lh ls 5 [some (.ref M0), some (.int (nI i)), some (.int (nI t)), some (.int (nI f)), some (.int (nI k))] → W p l e (rmD 1) s m ([.ref M0, .int (nI i), .int (nI t)] : List Value).toArray below meth c H locs 0 0 (MQ below (XQ N0 G vV (fun _ w1 => ∃ A1, MW G w1 M0 V A1 ∧ Nk A A1 i ∧ Tl A1 i (t :: L.filter (fun y => decide (y ≠ t))) (nI (g + 1)) ∧ Out w w1 M0 (M0 + 20))) ([.ref M0, .int (nI i), .int (nI t)] : List Value).toArray s 0 0 (fun q => N0 ≤ q)) (F0 m 59 ls []) := by
            intro nf
            induction nf with
            | zero => intros; omega
            | succ nf ih59 =>
              intro k A1 w1 H locs ls hnf hk hM1 hN1 h11 h12 h10 hO1 hw hS hl
              obtain ⟨hm0z, ⟨hv3z, hv4z, hv5z, hv6z, hv8z, hv9z, hv11z, hv12z, hv15z, hv18z, hv19z, hv20z, hv24z, hv30z, hv31z, hv32z, hv33z, hv34z, hv35z⟩, ha1z, ha2z, ha3z, ha4z, ha5z, ha6z, ha7z, ha8z, ha9z, ha10z, ha11z, ha12z, ha13z, ha14z, ha15z, ha16z, ha17z, ha18z, ha19z⟩ := id hM1
              refine xiload hx hb dX12_thinkLent_59 hl rfl ?_
              refine xif_le (tgt := 94) hx hb dX12_thinkLent_61 (by decide) (by omega) (fun c61 => ?_) (fun c61 => ?_)
              · skip
                subst c61
                refine xaload_n hx hb dX12_thinkLent_94 hl rfl ?_
                refine xgetM hx hb hts hiX12 hown hG hw (by repeat first | assumption | exact wu_eq _ _ _ | refine wu_ne (by omega) ?_) 18 (by decide) hlnk1 (by repeat first | assumption | exact vu_eq _ _ _ | refine vu_ne (by decide) ?_) dX12_thinkLent_95 ?_
                refine lv_iconst (v := nI 5) hx hb dX12_thinkLent_98 (by decide) ?_
                refine xiload_n hx hb dX12_thinkLent_99 hl rfl ?_
                first | refine xmul hx hb dX12_thinkLent_100 ?_ | refine lv_imul hx hb dX12_thinkLent_100 ?_
                refine xiload_n hx hb dX12_thinkLent_101 hl rfl ?_
                refine xiast hx hb hG hw hS (by repeat first | assumption | exact wu_eq _ _ _ | refine wu_ne (by omega) ?_) (by omega) (by omega) dX12_thinkLent_102 (fun H locs hzz hw hS => ?_)
                refine xaload_n hx hb dX12_thinkLent_103 hl rfl ?_
                refine xgetM hx hb hts hiX12 hown hG hw (by repeat first | assumption | exact wu_eq _ _ _ | refine wu_ne (by omega) ?_) 20 (by decide) hlnk2 (by repeat first | assumption | exact vu_eq _ _ _ | refine vu_ne (by decide) ?_) dX12_thinkLent_104 ?_
                refine xiload_n hx hb dX12_thinkLent_107 hl rfl ?_
                first | refine lv_dup2_11 hx hb dX12_thinkLent_108 rfl rfl ?_ | refine lv_dup2_2 hx hb dX12_thinkLent_108 rfl ?_
                refine xiald hx hb hG hw (by repeat first | assumption | exact wu_eq _ _ _ | refine wu_ne (by omega) ?_) (by omega) (by omega) dX12_thinkLent_109 ?_
                refine xtop h12 ?_
                refine lv_iconst (v := nI 1) hx hb dX12_thinkLent_110 (by decide) ?_
                first | refine xadd hx hb dX12_thinkLent_111 ?_ | refine lv_iadd hx hb dX12_thinkLent_111 ?_
                refine xiast hx hb hG hw hS (by repeat first | assumption | exact wu_eq _ _ _ | refine wu_ne (by omega) ?_) (by omega) (by omega) dX12_thinkLent_112 (fun H locs hzz hw hS => ?_)
                exact xvret hx hb hr hlk hw hS dX12_thinkLent_113 ⟨_, (hM1.a10 _).a12 _, (Nk.s10 (t := 0) hN1 (by omega)).s12, tl_lent hT hnd hf hno hfd hf4 h11 h10, (hO1.wu (by omega) (by omega)).wu (by omega) (by omega)⟩
              · skip
                refine xaload_n hx hb dX12_thinkLent_64 hl rfl ?_
                refine xgetM hx hb hts hiX12 hown hG hw (by repeat first | assumption | exact wu_eq _ _ _ | refine wu_ne (by omega) ?_) 18 (by decide) hlnk1 (by repeat first | assumption | exact vu_eq _ _ _ | refine vu_ne (by decide) ?_) dX12_thinkLent_65 ?_
                refine lv_iconst (v := nI 5) hx hb dX12_thinkLent_68 (by decide) ?_
                refine xiload_n hx hb dX12_thinkLent_69 hl rfl ?_
                first | refine xmul hx hb dX12_thinkLent_70 ?_ | refine lv_imul hx hb dX12_thinkLent_70 ?_
                refine xiload hx hb dX12_thinkLent_71 hl rfl ?_
                first | refine xadd hx hb dX12_thinkLent_73 ?_ | refine lv_iadd hx hb dX12_thinkLent_73 ?_
                refine xaload_n hx hb dX12_thinkLent_74 hl rfl ?_
                refine xgetM hx hb hts hiX12 hown hG hw (by repeat first | assumption | exact wu_eq _ _ _ | refine wu_ne (by omega) ?_) 18 (by decide) hlnk1 (by repeat first | assumption | exact vu_eq _ _ _ | refine vu_ne (by decide) ?_) dX12_thinkLent_75 ?_
                refine lv_iconst (v := nI 5) hx hb dX12_thinkLent_78 (by decide) ?_
                refine xiload_n hx hb dX12_thinkLent_79 hl rfl ?_
                first | refine xmul hx hb dX12_thinkLent_80 ?_ | refine lv_imul hx hb dX12_thinkLent_80 ?_
                refine xiload hx hb dX12_thinkLent_81 hl rfl ?_
                first | refine xadd hx hb dX12_thinkLent_83 ?_ | refine lv_iadd hx hb dX12_thinkLent_83 ?_
                refine lv_iconst (v := nI 1) hx hb dX12_thinkLent_84 (by decide) ?_
                first | refine xsub hx hb dX12_thinkLent_85 (by omega) ?_ | refine lv_isub hx hb dX12_thinkLent_85 ?_
                refine xiald hx hb hG hw (by repeat first | assumption | exact wu_eq _ _ _ | refine wu_ne (by omega) ?_) (by omega) (by omega) dX12_thinkLent_86 ?_
                refine xiast hx hb hG hw hS (by repeat first | assumption | exact wu_eq _ _ _ | refine wu_ne (by omega) ?_) (by omega) (by omega) dX12_thinkLent_87 (fun H locs hzz hw hS => ?_)
                refine xiinc hx hb dX12_thinkLent_88 hl rfl rfl (by decide) rfl (fun ls hl => ?_)
                refine lv_goto (tgt := 59) hx hb dX12_thinkLent_91 (by decide) ?_
                have hl : lh ls 5 [some (.ref M0), some (.int (nI i)), some (.int (nI t)), some (.int (nI f)), some (.int (nI (k - 1)))] := by
                  have e : nI k + Int32.ofInt (-1) = nI (k - 1) := sb_m1 (by omega)
                  rw [e] at hl
                  exact hl
                exact ih59 (k - 1) _ _ _ _ _ (by omega) (by omega) (hM1.a10 _) (hN1.s10 (by omega)) (by rw [vup_ne _ _ (by omega)]; exact h11) (by rw [vup_ne _ _ (by omega)]; exact h12) (fun j hj => by
                  rw [vup_eq]
                  by_cases q : j = k
                  · rw [q, upd_at, if_pos (by omega), show 5 * i + k - 1 = 5 * i + (k - 1) by omega, h10 (k - 1) (by omega), if_neg (by omega)]
                  · rw [upd_no (by omega), h10 j hj]
                    by_cases q2 : k < j ∧ j ≤ f
                    · rw [if_pos q2, if_pos (by omega)]
                    · rw [if_neg q2, if_neg (by omega)]) (hO1.wu (by omega) (by omega)) hw hS hl
          exact loop59 (f + 1) f _ _ _ _ _ (by omega) (Nat.le_refl _) (hM.a11 _) Nk.rf.s11 (by rw [vup_eq, upd_at]) (by rw [vup_ne _ _ (by omega)]; exact hT.2.1) (fun j hj => by rw [vup_ne _ _ (by omega)]; exact (if_neg (by omega)).symm) (Out.rf.wu (by omega) (by omega)) hw hS hl
        · skip
          refine lv_iconst (v := nI 1) hx hb dX12_thinkLent_49 (by decide) ?_
          refine lv_goto (tgt := 54) hx hb dX12_thinkLent_50 (by decide) ?_
          refine xtop (y := nI (if f = L.length then 1 else 0)) (by first | rw [if_pos c46] | rw [if_neg c46]) ?_
          first | refine xadd hx hb dX12_thinkLent_54 ?_ | refine lv_iadd hx hb dX12_thinkLent_54 ?_
          refine xiast hx hb hG hw hS (by repeat first | assumption | exact wu_eq _ _ _ | refine wu_ne (by omega) ?_) (by omega) (by omega) dX12_thinkLent_55 (fun H locs hzz hw hS => ?_)
          refine xiload_n hx hb dX12_thinkLent_56 hl rfl ?_
          refine xistore hx hb dX12_thinkLent_57 hl (by decide) rfl (fun ls hl => ?_)
          have loop59 : ∀ (nf : Nat) (k : Nat) (A1 : Nat → Nat → Int32) (w1 : Wd) (H : Heap) (locs : List Loc) (ls : Array Slot), k < nf → (k ≤ f) → (MW G w1 M0 V A1) → (Nk A A1 i) → (A1 11 i = nI (L.length + (if f = L.length then 1 else 0))) → (A1 12 i = nI g) → (∀ j, j < 5 → A1 10 (5 * i + j) = if k < j ∧ j ≤ f then A 10 (5 * i + (j - 1)) else A 10 (5 * i + j)) → (Out w w1 M0 (M0 + 20)) → PW N0 G w1 H → va_S (fun q => N0 ≤ q) s.heap H locs → lh ls 5 [some (.ref M0), some (.int (nI i)), some (.int (nI t)), some (.int (nI f)), some (.int (nI k))] → W p l e (rmD 1) s m ([.ref M0, .int (nI i), .int (nI t)] : List Value).toArray below meth c H locs 0 0 (MQ below (XQ N0 G vV (fun _ w1 => ∃ A1, MW G w1 M0 V A1 ∧ Nk A A1 i ∧ Tl A1 i (t :: L.filter (fun y => decide (y ≠ t))) (nI (g + 1)) ∧ Out w w1 M0 (M0 + 20))) ([.ref M0, .int (nI i), .int (nI t)] : List Value).toArray s 0 0 (fun q => N0 ≤ q)) (F0 m 59 ls []) := by
            intro nf
            induction nf with
            | zero => intros; omega
            | succ nf ih59 =>
              intro k A1 w1 H locs ls hnf hk hM1 hN1 h11 h12 h10 hO1 hw hS hl
              obtain ⟨hm0z, ⟨hv3z, hv4z, hv5z, hv6z, hv8z, hv9z, hv11z, hv12z, hv15z, hv18z, hv19z, hv20z, hv24z, hv30z, hv31z, hv32z, hv33z, hv34z, hv35z⟩, ha1z, ha2z, ha3z, ha4z, ha5z, ha6z, ha7z, ha8z, ha9z, ha10z, ha11z, ha12z, ha13z, ha14z, ha15z, ha16z, ha17z, ha18z, ha19z⟩ := id hM1
              refine xiload hx hb dX12_thinkLent_59 hl rfl ?_
              refine xif_le (tgt := 94) hx hb dX12_thinkLent_61 (by decide) (by omega) (fun c61 => ?_) (fun c61 => ?_)
              · skip
                subst c61
                refine xaload_n hx hb dX12_thinkLent_94 hl rfl ?_
                refine xgetM hx hb hts hiX12 hown hG hw (by repeat first | assumption | exact wu_eq _ _ _ | refine wu_ne (by omega) ?_) 18 (by decide) hlnk1 (by repeat first | assumption | exact vu_eq _ _ _ | refine vu_ne (by decide) ?_) dX12_thinkLent_95 ?_
                refine lv_iconst (v := nI 5) hx hb dX12_thinkLent_98 (by decide) ?_
                refine xiload_n hx hb dX12_thinkLent_99 hl rfl ?_
                first | refine xmul hx hb dX12_thinkLent_100 ?_ | refine lv_imul hx hb dX12_thinkLent_100 ?_
                refine xiload_n hx hb dX12_thinkLent_101 hl rfl ?_
                refine xiast hx hb hG hw hS (by repeat first | assumption | exact wu_eq _ _ _ | refine wu_ne (by omega) ?_) (by omega) (by omega) dX12_thinkLent_102 (fun H locs hzz hw hS => ?_)
                refine xaload_n hx hb dX12_thinkLent_103 hl rfl ?_
                refine xgetM hx hb hts hiX12 hown hG hw (by repeat first | assumption | exact wu_eq _ _ _ | refine wu_ne (by omega) ?_) 20 (by decide) hlnk2 (by repeat first | assumption | exact vu_eq _ _ _ | refine vu_ne (by decide) ?_) dX12_thinkLent_104 ?_
                refine xiload_n hx hb dX12_thinkLent_107 hl rfl ?_
                first | refine lv_dup2_11 hx hb dX12_thinkLent_108 rfl rfl ?_ | refine lv_dup2_2 hx hb dX12_thinkLent_108 rfl ?_
                refine xiald hx hb hG hw (by repeat first | assumption | exact wu_eq _ _ _ | refine wu_ne (by omega) ?_) (by omega) (by omega) dX12_thinkLent_109 ?_
                refine xtop h12 ?_
                refine lv_iconst (v := nI 1) hx hb dX12_thinkLent_110 (by decide) ?_
                first | refine xadd hx hb dX12_thinkLent_111 ?_ | refine lv_iadd hx hb dX12_thinkLent_111 ?_
                refine xiast hx hb hG hw hS (by repeat first | assumption | exact wu_eq _ _ _ | refine wu_ne (by omega) ?_) (by omega) (by omega) dX12_thinkLent_112 (fun H locs hzz hw hS => ?_)
                exact xvret hx hb hr hlk hw hS dX12_thinkLent_113 ⟨_, (hM1.a10 _).a12 _, (Nk.s10 (t := 0) hN1 (by omega)).s12, tl_lent hT hnd hf hno hfd hf4 h11 h10, (hO1.wu (by omega) (by omega)).wu (by omega) (by omega)⟩
              · skip
                refine xaload_n hx hb dX12_thinkLent_64 hl rfl ?_
                refine xgetM hx hb hts hiX12 hown hG hw (by repeat first | assumption | exact wu_eq _ _ _ | refine wu_ne (by omega) ?_) 18 (by decide) hlnk1 (by repeat first | assumption | exact vu_eq _ _ _ | refine vu_ne (by decide) ?_) dX12_thinkLent_65 ?_
                refine lv_iconst (v := nI 5) hx hb dX12_thinkLent_68 (by decide) ?_
                refine xiload_n hx hb dX12_thinkLent_69 hl rfl ?_
                first | refine xmul hx hb dX12_thinkLent_70 ?_ | refine lv_imul hx hb dX12_thinkLent_70 ?_
                refine xiload hx hb dX12_thinkLent_71 hl rfl ?_
                first | refine xadd hx hb dX12_thinkLent_73 ?_ | refine lv_iadd hx hb dX12_thinkLent_73 ?_
                refine xaload_n hx hb dX12_thinkLent_74 hl rfl ?_
                refine xgetM hx hb hts hiX12 hown hG hw (by repeat first | assumption | exact wu_eq _ _ _ | refine wu_ne (by omega) ?_) 18 (by decide) hlnk1 (by repeat first | assumption | exact vu_eq _ _ _ | refine vu_ne (by decide) ?_) dX12_thinkLent_75 ?_
                refine lv_iconst (v := nI 5) hx hb dX12_thinkLent_78 (by decide) ?_
                refine xiload_n hx hb dX12_thinkLent_79 hl rfl ?_
                first | refine xmul hx hb dX12_thinkLent_80 ?_ | refine lv_imul hx hb dX12_thinkLent_80 ?_
                refine xiload hx hb dX12_thinkLent_81 hl rfl ?_
                first | refine xadd hx hb dX12_thinkLent_83 ?_ | refine lv_iadd hx hb dX12_thinkLent_83 ?_
                refine lv_iconst (v := nI 1) hx hb dX12_thinkLent_84 (by decide) ?_
                first | refine xsub hx hb dX12_thinkLent_85 (by omega) ?_ | refine lv_isub hx hb dX12_thinkLent_85 ?_
                refine xiald hx hb hG hw (by repeat first | assumption | exact wu_eq _ _ _ | refine wu_ne (by omega) ?_) (by omega) (by omega) dX12_thinkLent_86 ?_
                refine xiast hx hb hG hw hS (by repeat first | assumption | exact wu_eq _ _ _ | refine wu_ne (by omega) ?_) (by omega) (by omega) dX12_thinkLent_87 (fun H locs hzz hw hS => ?_)
                refine xiinc hx hb dX12_thinkLent_88 hl rfl rfl (by decide) rfl (fun ls hl => ?_)
                refine lv_goto (tgt := 59) hx hb dX12_thinkLent_91 (by decide) ?_
                have hl : lh ls 5 [some (.ref M0), some (.int (nI i)), some (.int (nI t)), some (.int (nI f)), some (.int (nI (k - 1)))] := by
                  have e : nI k + Int32.ofInt (-1) = nI (k - 1) := sb_m1 (by omega)
                  rw [e] at hl
                  exact hl
                exact ih59 (k - 1) _ _ _ _ _ (by omega) (by omega) (hM1.a10 _) (hN1.s10 (by omega)) (by rw [vup_ne _ _ (by omega)]; exact h11) (by rw [vup_ne _ _ (by omega)]; exact h12) (fun j hj => by
                  rw [vup_eq]
                  by_cases q : j = k
                  · rw [q, upd_at, if_pos (by omega), show 5 * i + k - 1 = 5 * i + (k - 1) by omega, h10 (k - 1) (by omega), if_neg (by omega)]
                  · rw [upd_no (by omega), h10 j hj]
                    by_cases q2 : k < j ∧ j ≤ f
                    · rw [if_pos q2, if_pos (by omega)]
                    · rw [if_neg q2, if_neg (by omega)]) (hO1.wu (by omega) (by omega)) hw hS hl
          exact loop59 (f + 1) f _ _ _ _ _ (by omega) (Nat.le_refl _) (hM.a11 _) Nk.rf.s11 (by rw [vup_eq, upd_at]) (by rw [vup_ne _ _ (by omega)]; exact hT.2.1) (fun j hj => by rw [vup_ne _ _ (by omega)]; exact (if_neg (by omega)).symm) (Out.rf.wu (by omega) (by omega)) hw hS hl
      · skip
        refine xaload_n hx hb dX12_thinkLent_12 hl rfl ?_
        refine xgetM hx hb hts hiX12 hown hG hw (by repeat first | assumption | exact wu_eq _ _ _ | refine wu_ne (by omega) ?_) 18 (by decide) hlnk1 (by repeat first | assumption | exact vu_eq _ _ _ | refine vu_ne (by decide) ?_) dX12_thinkLent_13 ?_
        refine lv_iconst (v := nI 5) hx hb dX12_thinkLent_16 (by decide) ?_
        refine xiload_n hx hb dX12_thinkLent_17 hl rfl ?_
        first | refine xmul hx hb dX12_thinkLent_18 ?_ | refine lv_imul hx hb dX12_thinkLent_18 ?_
        refine xiload_n hx hb dX12_thinkLent_19 hl rfl ?_
        first | refine xadd hx hb dX12_thinkLent_20 ?_ | refine lv_iadd hx hb dX12_thinkLent_20 ?_
        refine xiald hx hb hG hw (by repeat first | assumption | exact wu_eq _ _ _ | refine wu_ne (by omega) ?_) (by omega) (by omega) dX12_thinkLent_21 ?_
        have hg5 : L.getD f 0 < 5 := getD_lt hall (by omega)
        refine xtop (hT.2.2 f (by omega)) ?_
        refine xiload_n hx hb dX12_thinkLent_22 hl rfl ?_
        first | refine xcmp_eq (tgt := 32) hx hb dX12_thinkLent_23 (by decide) (by omega) (by omega) (fun c23 => ?_) (fun c23 => ?_) | refine lv_icmp_eq (tgt := 32) hx hb dX12_thinkLent_23 (by decide) (fun c23 => ?_) (fun c23 => ?_)
        · skip
          have hfd : f < L.length → L.getD f 0 = t := by first | exact fun _ => c23 | (intro q; omega)
          have hf4 : f ≤ 4 := tl_f hnd hall ht5 hf hno hL5
          refine xaload_n hx hb dX12_thinkLent_32 hl rfl ?_
          refine xgetM hx hb hts hiX12 hown hG hw (by repeat first | assumption | exact wu_eq _ _ _ | refine wu_ne (by omega) ?_) 19 (by decide) hlnk0 (by repeat first | assumption | exact vu_eq _ _ _ | refine vu_ne (by decide) ?_) dX12_thinkLent_33 ?_
          refine xiload_n hx hb dX12_thinkLent_36 hl rfl ?_
          first | refine lv_dup2_11 hx hb dX12_thinkLent_37 rfl rfl ?_ | refine lv_dup2_2 hx hb dX12_thinkLent_37 rfl ?_
          refine xiald hx hb hG hw (by repeat first | assumption | exact wu_eq _ _ _ | refine wu_ne (by omega) ?_) (by omega) (by omega) dX12_thinkLent_38 ?_
          refine xtop hT.1 ?_
          refine xiload_n hx hb dX12_thinkLent_39 hl rfl ?_
          refine xaload_n hx hb dX12_thinkLent_40 hl rfl ?_
          refine xgetM hx hb hts hiX12 hown hG hw (by repeat first | assumption | exact wu_eq _ _ _ | refine wu_ne (by omega) ?_) 19 (by decide) hlnk0 (by repeat first | assumption | exact vu_eq _ _ _ | refine vu_ne (by decide) ?_) dX12_thinkLent_41 ?_
          refine xiload_n hx hb dX12_thinkLent_44 hl rfl ?_
          refine xiald hx hb hG hw (by repeat first | assumption | exact wu_eq _ _ _ | refine wu_ne (by omega) ?_) (by omega) (by omega) dX12_thinkLent_45 ?_
          refine xtop hT.1 ?_
          first | refine xcmp_ne (tgt := 53) hx hb dX12_thinkLent_46 (by decide) (by omega) (by omega) (fun c46 => ?_) (fun c46 => ?_) | refine lv_icmp_ne (tgt := 53) hx hb dX12_thinkLent_46 (by decide) (fun c46 => ?_) (fun c46 => ?_)
          · skip
            refine lv_iconst (v := nI 0) hx hb dX12_thinkLent_53 (by decide) ?_
            refine xtop (y := nI (if f = L.length then 1 else 0)) (by first | rw [if_pos c46] | rw [if_neg c46]) ?_
            first | refine xadd hx hb dX12_thinkLent_54 ?_ | refine lv_iadd hx hb dX12_thinkLent_54 ?_
            refine xiast hx hb hG hw hS (by repeat first | assumption | exact wu_eq _ _ _ | refine wu_ne (by omega) ?_) (by omega) (by omega) dX12_thinkLent_55 (fun H locs hzz hw hS => ?_)
            refine xiload_n hx hb dX12_thinkLent_56 hl rfl ?_
            refine xistore hx hb dX12_thinkLent_57 hl (by decide) rfl (fun ls hl => ?_)
            have loop59 : ∀ (nf : Nat) (k : Nat) (A1 : Nat → Nat → Int32) (w1 : Wd) (H : Heap) (locs : List Loc) (ls : Array Slot), k < nf → (k ≤ f) → (MW G w1 M0 V A1) → (Nk A A1 i) → (A1 11 i = nI (L.length + (if f = L.length then 1 else 0))) → (A1 12 i = nI g) → (∀ j, j < 5 → A1 10 (5 * i + j) = if k < j ∧ j ≤ f then A 10 (5 * i + (j - 1)) else A 10 (5 * i + j)) → (Out w w1 M0 (M0 + 20)) → PW N0 G w1 H → va_S (fun q => N0 ≤ q) s.heap H locs → lh ls 5 [some (.ref M0), some (.int (nI i)), some (.int (nI t)), some (.int (nI f)), some (.int (nI k))] → W p l e (rmD 1) s m ([.ref M0, .int (nI i), .int (nI t)] : List Value).toArray below meth c H locs 0 0 (MQ below (XQ N0 G vV (fun _ w1 => ∃ A1, MW G w1 M0 V A1 ∧ Nk A A1 i ∧ Tl A1 i (t :: L.filter (fun y => decide (y ≠ t))) (nI (g + 1)) ∧ Out w w1 M0 (M0 + 20))) ([.ref M0, .int (nI i), .int (nI t)] : List Value).toArray s 0 0 (fun q => N0 ≤ q)) (F0 m 59 ls []) := by
              intro nf
              induction nf with
              | zero => intros; omega
              | succ nf ih59 =>
                intro k A1 w1 H locs ls hnf hk hM1 hN1 h11 h12 h10 hO1 hw hS hl
                obtain ⟨hm0z, ⟨hv3z, hv4z, hv5z, hv6z, hv8z, hv9z, hv11z, hv12z, hv15z, hv18z, hv19z, hv20z, hv24z, hv30z, hv31z, hv32z, hv33z, hv34z, hv35z⟩, ha1z, ha2z, ha3z, ha4z, ha5z, ha6z, ha7z, ha8z, ha9z, ha10z, ha11z, ha12z, ha13z, ha14z, ha15z, ha16z, ha17z, ha18z, ha19z⟩ := id hM1
                refine xiload hx hb dX12_thinkLent_59 hl rfl ?_
                refine xif_le (tgt := 94) hx hb dX12_thinkLent_61 (by decide) (by omega) (fun c61 => ?_) (fun c61 => ?_)
                · skip
                  subst c61
                  refine xaload_n hx hb dX12_thinkLent_94 hl rfl ?_
                  refine xgetM hx hb hts hiX12 hown hG hw (by repeat first | assumption | exact wu_eq _ _ _ | refine wu_ne (by omega) ?_) 18 (by decide) hlnk1 (by repeat first | assumption | exact vu_eq _ _ _ | refine vu_ne (by decide) ?_) dX12_thinkLent_95 ?_
                  refine lv_iconst (v := nI 5) hx hb dX12_thinkLent_98 (by decide) ?_
                  refine xiload_n hx hb dX12_thinkLent_99 hl rfl ?_
                  first | refine xmul hx hb dX12_thinkLent_100 ?_ | refine lv_imul hx hb dX12_thinkLent_100 ?_
                  refine xiload_n hx hb dX12_thinkLent_101 hl rfl ?_
                  refine xiast hx hb hG hw hS (by repeat first | assumption | exact wu_eq _ _ _ | refine wu_ne (by omega) ?_) (by omega) (by omega) dX12_thinkLent_102 (fun H locs hzz hw hS => ?_)
                  refine xaload_n hx hb dX12_thinkLent_103 hl rfl ?_
                  refine xgetM hx hb hts hiX12 hown hG hw (by repeat first | assumption | exact wu_eq _ _ _ | refine wu_ne (by omega) ?_) 20 (by decide) hlnk2 (by repeat first | assumption | exact vu_eq _ _ _ | refine vu_ne (by decide) ?_) dX12_thinkLent_104 ?_
                  refine xiload_n hx hb dX12_thinkLent_107 hl rfl ?_
                  first | refine lv_dup2_11 hx hb dX12_thinkLent_108 rfl rfl ?_ | refine lv_dup2_2 hx hb dX12_thinkLent_108 rfl ?_
                  refine xiald hx hb hG hw (by repeat first | assumption | exact wu_eq _ _ _ | refine wu_ne (by omega) ?_) (by omega) (by omega) dX12_thinkLent_109 ?_
                  refine xtop h12 ?_
                  refine lv_iconst (v := nI 1) hx hb dX12_thinkLent_110 (by decide) ?_
                  first | refine xadd hx hb dX12_thinkLent_111 ?_ | refine lv_iadd hx hb dX12_thinkLent_111 ?_
                  refine xiast hx hb hG hw hS (by repeat first | assumption | exact wu_eq _ _ _ | refine wu_ne (by omega) ?_) (by omega) (by omega) dX12_thinkLent_112 (fun H locs hzz hw hS => ?_)
                  exact xvret hx hb hr hlk hw hS dX12_thinkLent_113 ⟨_, (hM1.a10 _).a12 _, (Nk.s10 (t := 0) hN1 (by omega)).s12, tl_lent hT hnd hf hno hfd hf4 h11 h10, (hO1.wu (by omega) (by omega)).wu (by omega) (by omega)⟩
                · skip
                  refine xaload_n hx hb dX12_thinkLent_64 hl rfl ?_
                  refine xgetM hx hb hts hiX12 hown hG hw (by repeat first | assumption | exact wu_eq _ _ _ | refine wu_ne (by omega) ?_) 18 (by decide) hlnk1 (by repeat first | assumption | exact vu_eq _ _ _ | refine vu_ne (by decide) ?_) dX12_thinkLent_65 ?_
                  refine lv_iconst (v := nI 5) hx hb dX12_thinkLent_68 (by decide) ?_
                  refine xiload_n hx hb dX12_thinkLent_69 hl rfl ?_
                  first | refine xmul hx hb dX12_thinkLent_70 ?_ | refine lv_imul hx hb dX12_thinkLent_70 ?_
                  refine xiload hx hb dX12_thinkLent_71 hl rfl ?_
                  first | refine xadd hx hb dX12_thinkLent_73 ?_ | refine lv_iadd hx hb dX12_thinkLent_73 ?_
                  refine xaload_n hx hb dX12_thinkLent_74 hl rfl ?_
                  refine xgetM hx hb hts hiX12 hown hG hw (by repeat first | assumption | exact wu_eq _ _ _ | refine wu_ne (by omega) ?_) 18 (by decide) hlnk1 (by repeat first | assumption | exact vu_eq _ _ _ | refine vu_ne (by decide) ?_) dX12_thinkLent_75 ?_
                  refine lv_iconst (v := nI 5) hx hb dX12_thinkLent_78 (by decide) ?_
                  refine xiload_n hx hb dX12_thinkLent_79 hl rfl ?_
                  first | refine xmul hx hb dX12_thinkLent_80 ?_ | refine lv_imul hx hb dX12_thinkLent_80 ?_
                  refine xiload hx hb dX12_thinkLent_81 hl rfl ?_
                  first | refine xadd hx hb dX12_thinkLent_83 ?_ | refine lv_iadd hx hb dX12_thinkLent_83 ?_
                  refine lv_iconst (v := nI 1) hx hb dX12_thinkLent_84 (by decide) ?_
                  first | refine xsub hx hb dX12_thinkLent_85 (by omega) ?_ | refine lv_isub hx hb dX12_thinkLent_85 ?_
                  refine xiald hx hb hG hw (by repeat first | assumption | exact wu_eq _ _ _ | refine wu_ne (by omega) ?_) (by omega) (by omega) dX12_thinkLent_86 ?_
                  refine xiast hx hb hG hw hS (by repeat first | assumption | exact wu_eq _ _ _ | refine wu_ne (by omega) ?_) (by omega) (by omega) dX12_thinkLent_87 (fun H locs hzz hw hS => ?_)
                  refine xiinc hx hb dX12_thinkLent_88 hl rfl rfl (by decide) rfl (fun ls hl => ?_)
                  refine lv_goto (tgt := 59) hx hb dX12_thinkLent_91 (by decide) ?_
                  have hl : lh ls 5 [some (.ref M0), some (.int (nI i)), some (.int (nI t)), some (.int (nI f)), some (.int (nI (k - 1)))] := by
                    have e : nI k + Int32.ofInt (-1) = nI (k - 1) := sb_m1 (by omega)
                    rw [e] at hl
                    exact hl
                  exact ih59 (k - 1) _ _ _ _ _ (by omega) (by omega) (hM1.a10 _) (hN1.s10 (by omega)) (by rw [vup_ne _ _ (by omega)]; exact h11) (by rw [vup_ne _ _ (by omega)]; exact h12) (fun j hj => by
                    rw [vup_eq]
                    by_cases q : j = k
                    · rw [q, upd_at, if_pos (by omega), show 5 * i + k - 1 = 5 * i + (k - 1) by omega, h10 (k - 1) (by omega), if_neg (by omega)]
                    · rw [upd_no (by omega), h10 j hj]
                      by_cases q2 : k < j ∧ j ≤ f
                      · rw [if_pos q2, if_pos (by omega)]
                      · rw [if_neg q2, if_neg (by omega)]) (hO1.wu (by omega) (by omega)) hw hS hl
            exact loop59 (f + 1) f _ _ _ _ _ (by omega) (Nat.le_refl _) (hM.a11 _) Nk.rf.s11 (by rw [vup_eq, upd_at]) (by rw [vup_ne _ _ (by omega)]; exact hT.2.1) (fun j hj => by rw [vup_ne _ _ (by omega)]; exact (if_neg (by omega)).symm) (Out.rf.wu (by omega) (by omega)) hw hS hl
          · skip
            refine lv_iconst (v := nI 1) hx hb dX12_thinkLent_49 (by decide) ?_
            refine lv_goto (tgt := 54) hx hb dX12_thinkLent_50 (by decide) ?_
            refine xtop (y := nI (if f = L.length then 1 else 0)) (by first | rw [if_pos c46] | rw [if_neg c46]) ?_
            first | refine xadd hx hb dX12_thinkLent_54 ?_ | refine lv_iadd hx hb dX12_thinkLent_54 ?_
            refine xiast hx hb hG hw hS (by repeat first | assumption | exact wu_eq _ _ _ | refine wu_ne (by omega) ?_) (by omega) (by omega) dX12_thinkLent_55 (fun H locs hzz hw hS => ?_)
            refine xiload_n hx hb dX12_thinkLent_56 hl rfl ?_
            refine xistore hx hb dX12_thinkLent_57 hl (by decide) rfl (fun ls hl => ?_)
            have loop59 : ∀ (nf : Nat) (k : Nat) (A1 : Nat → Nat → Int32) (w1 : Wd) (H : Heap) (locs : List Loc) (ls : Array Slot), k < nf → (k ≤ f) → (MW G w1 M0 V A1) → (Nk A A1 i) → (A1 11 i = nI (L.length + (if f = L.length then 1 else 0))) → (A1 12 i = nI g) → (∀ j, j < 5 → A1 10 (5 * i + j) = if k < j ∧ j ≤ f then A 10 (5 * i + (j - 1)) else A 10 (5 * i + j)) → (Out w w1 M0 (M0 + 20)) → PW N0 G w1 H → va_S (fun q => N0 ≤ q) s.heap H locs → lh ls 5 [some (.ref M0), some (.int (nI i)), some (.int (nI t)), some (.int (nI f)), some (.int (nI k))] → W p l e (rmD 1) s m ([.ref M0, .int (nI i), .int (nI t)] : List Value).toArray below meth c H locs 0 0 (MQ below (XQ N0 G vV (fun _ w1 => ∃ A1, MW G w1 M0 V A1 ∧ Nk A A1 i ∧ Tl A1 i (t :: L.filter (fun y => decide (y ≠ t))) (nI (g + 1)) ∧ Out w w1 M0 (M0 + 20))) ([.ref M0, .int (nI i), .int (nI t)] : List Value).toArray s 0 0 (fun q => N0 ≤ q)) (F0 m 59 ls []) := by
              intro nf
              induction nf with
              | zero => intros; omega
              | succ nf ih59 =>
                intro k A1 w1 H locs ls hnf hk hM1 hN1 h11 h12 h10 hO1 hw hS hl
                obtain ⟨hm0z, ⟨hv3z, hv4z, hv5z, hv6z, hv8z, hv9z, hv11z, hv12z, hv15z, hv18z, hv19z, hv20z, hv24z, hv30z, hv31z, hv32z, hv33z, hv34z, hv35z⟩, ha1z, ha2z, ha3z, ha4z, ha5z, ha6z, ha7z, ha8z, ha9z, ha10z, ha11z, ha12z, ha13z, ha14z, ha15z, ha16z, ha17z, ha18z, ha19z⟩ := id hM1
                refine xiload hx hb dX12_thinkLent_59 hl rfl ?_
                refine xif_le (tgt := 94) hx hb dX12_thinkLent_61 (by decide) (by omega) (fun c61 => ?_) (fun c61 => ?_)
                · skip
                  subst c61
                  refine xaload_n hx hb dX12_thinkLent_94 hl rfl ?_
                  refine xgetM hx hb hts hiX12 hown hG hw (by repeat first | assumption | exact wu_eq _ _ _ | refine wu_ne (by omega) ?_) 18 (by decide) hlnk1 (by repeat first | assumption | exact vu_eq _ _ _ | refine vu_ne (by decide) ?_) dX12_thinkLent_95 ?_
                  refine lv_iconst (v := nI 5) hx hb dX12_thinkLent_98 (by decide) ?_
                  refine xiload_n hx hb dX12_thinkLent_99 hl rfl ?_
                  first | refine xmul hx hb dX12_thinkLent_100 ?_ | refine lv_imul hx hb dX12_thinkLent_100 ?_
                  refine xiload_n hx hb dX12_thinkLent_101 hl rfl ?_
                  refine xiast hx hb hG hw hS (by repeat first | assumption | exact wu_eq _ _ _ | refine wu_ne (by omega) ?_) (by omega) (by omega) dX12_thinkLent_102 (fun H locs hzz hw hS => ?_)
                  refine xaload_n hx hb dX12_thinkLent_103 hl rfl ?_
                  refine xgetM hx hb hts hiX12 hown hG hw (by repeat first | assumption | exact wu_eq _ _ _ | refine wu_ne (by omega) ?_) 20 (by decide) hlnk2 (by repeat first | assumption | exact vu_eq _ _ _ | refine vu_ne (by decide) ?_) dX12_thinkLent_104 ?_
                  refine xiload_n hx hb dX12_thinkLent_107 hl rfl ?_
                  first | refine lv_dup2_11 hx hb dX12_thinkLent_108 rfl rfl ?_ | refine lv_dup2_2 hx hb dX12_thinkLent_108 rfl ?_
                  refine xiald hx hb hG hw (by repeat first | assumption | exact wu_eq _ _ _ | refine wu_ne (by omega) ?_) (by omega) (by omega) dX12_thinkLent_109 ?_
                  refine xtop h12 ?_
                  refine lv_iconst (v := nI 1) hx hb dX12_thinkLent_110 (by decide) ?_
                  first | refine xadd hx hb dX12_thinkLent_111 ?_ | refine lv_iadd hx hb dX12_thinkLent_111 ?_
                  refine xiast hx hb hG hw hS (by repeat first | assumption | exact wu_eq _ _ _ | refine wu_ne (by omega) ?_) (by omega) (by omega) dX12_thinkLent_112 (fun H locs hzz hw hS => ?_)
                  exact xvret hx hb hr hlk hw hS dX12_thinkLent_113 ⟨_, (hM1.a10 _).a12 _, (Nk.s10 (t := 0) hN1 (by omega)).s12, tl_lent hT hnd hf hno hfd hf4 h11 h10, (hO1.wu (by omega) (by omega)).wu (by omega) (by omega)⟩
                · skip
                  refine xaload_n hx hb dX12_thinkLent_64 hl rfl ?_
                  refine xgetM hx hb hts hiX12 hown hG hw (by repeat first | assumption | exact wu_eq _ _ _ | refine wu_ne (by omega) ?_) 18 (by decide) hlnk1 (by repeat first | assumption | exact vu_eq _ _ _ | refine vu_ne (by decide) ?_) dX12_thinkLent_65 ?_
                  refine lv_iconst (v := nI 5) hx hb dX12_thinkLent_68 (by decide) ?_
                  refine xiload_n hx hb dX12_thinkLent_69 hl rfl ?_
                  first | refine xmul hx hb dX12_thinkLent_70 ?_ | refine lv_imul hx hb dX12_thinkLent_70 ?_
                  refine xiload hx hb dX12_thinkLent_71 hl rfl ?_
                  first | refine xadd hx hb dX12_thinkLent_73 ?_ | refine lv_iadd hx hb dX12_thinkLent_73 ?_
                  refine xaload_n hx hb dX12_thinkLent_74 hl rfl ?_
                  refine xgetM hx hb hts hiX12 hown hG hw (by repeat first | assumption | exact wu_eq _ _ _ | refine wu_ne (by omega) ?_) 18 (by decide) hlnk1 (by repeat first | assumption | exact vu_eq _ _ _ | refine vu_ne (by decide) ?_) dX12_thinkLent_75 ?_
                  refine lv_iconst (v := nI 5) hx hb dX12_thinkLent_78 (by decide) ?_
                  refine xiload_n hx hb dX12_thinkLent_79 hl rfl ?_
                  first | refine xmul hx hb dX12_thinkLent_80 ?_ | refine lv_imul hx hb dX12_thinkLent_80 ?_
                  refine xiload hx hb dX12_thinkLent_81 hl rfl ?_
                  first | refine xadd hx hb dX12_thinkLent_83 ?_ | refine lv_iadd hx hb dX12_thinkLent_83 ?_
                  refine lv_iconst (v := nI 1) hx hb dX12_thinkLent_84 (by decide) ?_
                  first | refine xsub hx hb dX12_thinkLent_85 (by omega) ?_ | refine lv_isub hx hb dX12_thinkLent_85 ?_
                  refine xiald hx hb hG hw (by repeat first | assumption | exact wu_eq _ _ _ | refine wu_ne (by omega) ?_) (by omega) (by omega) dX12_thinkLent_86 ?_
                  refine xiast hx hb hG hw hS (by repeat first | assumption | exact wu_eq _ _ _ | refine wu_ne (by omega) ?_) (by omega) (by omega) dX12_thinkLent_87 (fun H locs hzz hw hS => ?_)
                  refine xiinc hx hb dX12_thinkLent_88 hl rfl rfl (by decide) rfl (fun ls hl => ?_)
                  refine lv_goto (tgt := 59) hx hb dX12_thinkLent_91 (by decide) ?_
                  have hl : lh ls 5 [some (.ref M0), some (.int (nI i)), some (.int (nI t)), some (.int (nI f)), some (.int (nI (k - 1)))] := by
                    have e : nI k + Int32.ofInt (-1) = nI (k - 1) := sb_m1 (by omega)
                    rw [e] at hl
                    exact hl
                  exact ih59 (k - 1) _ _ _ _ _ (by omega) (by omega) (hM1.a10 _) (hN1.s10 (by omega)) (by rw [vup_ne _ _ (by omega)]; exact h11) (by rw [vup_ne _ _ (by omega)]; exact h12) (fun j hj => by
                    rw [vup_eq]
                    by_cases q : j = k
                    · rw [q, upd_at, if_pos (by omega), show 5 * i + k - 1 = 5 * i + (k - 1) by omega, h10 (k - 1) (by omega), if_neg (by omega)]
                    · rw [upd_no (by omega), h10 j hj]
                      by_cases q2 : k < j ∧ j ≤ f
                      · rw [if_pos q2, if_pos (by omega)]
                      · rw [if_neg q2, if_neg (by omega)]) (hO1.wu (by omega) (by omega)) hw hS hl
            exact loop59 (f + 1) f _ _ _ _ _ (by omega) (Nat.le_refl _) (hM.a11 _) Nk.rf.s11 (by rw [vup_eq, upd_at]) (by rw [vup_ne _ _ (by omega)]; exact hT.2.1) (fun j hj => by rw [vup_ne _ _ (by omega)]; exact (if_neg (by omega)).symm) (Out.rf.wu (by omega) (by omega)) hw hS hl
        · skip
          first | refine xiincN hx hb 1 dX12_thinkLent_26 hl rfl (by decide) (by decide) rfl (fun ls hl => ?_) | refine xiinc hx hb dX12_thinkLent_26 hl rfl rfl (by decide) rfl (fun ls hl => ?_)
          refine lv_goto (tgt := 2) hx hb dX12_thinkLent_29 (by decide) ?_
          exact ih2 (f + 1) _ _ _ (by omega) (by omega) (fun j hj => by
            rcases (show j < f ∨ j = f by omega) with q | q
            · exact hno j q
            · rw [q]; exact c23) hw hS hl
  exact loop2 (L.length + 1) 0 _ _ _ (by omega) (by omega) (fun j hj => absurd hj (Nat.not_lt_zero j)) hw hS hl
set_option maxHeartbeats 4000000 in
set_option maxRecDepth 100000 in
theorem kX12_boundNow (l : Launch) (N0 : Nat) (G : XG) (w : Wd) (M0 : Nat) (V : Nat → Value) (A : Nat → Nat → Int32) (hM : MW G w M0 V A) (S : QS) (hR : RM S V A) (hL : WB S) (i : Nat) (hi : i < sn S) (hall : ∀ x ∈ sp S i, x < sn S) : XM l yX12_boundNow wsX12_boundNow (rmD 3) N0 G [.ref M0, .int (nI i)] w vI (fun r w1 => nI (bnd (sP S) (sL S) (sp S i)) = r ∧ ∃ A1, MW G w1 M0 V A1 ∧ Nk A A1 i ∧ Out w w1 M0 (M0 + 20)) 0 0 := by
  refine XM.of (cc := cX12_boundNow) (maxL := 2) (ret := (some .int)) (by decide) rfl (Nat.le_of_ble_eq_true rfl) ?_
  intro p e s m below meth c hx hb hr hlk hin0 hml hown hts hN hw hG hS ls hl
  have hown : s.vm.findClass RX12 = some m.cls := hown
  have hl : lh ls 2 [some (.ref M0), some (.int (nI i))] := hl
  obtain ⟨hm0, ⟨hv3, hv4, hv5, hv6, hv8, hv9, hv11, hv12, hv15, hv18, hv19, hv20, hv24, hv30, hv31, hv32, hv33, hv34, hv35⟩, ha1, ha2, ha3, ha4, ha5, ha6, ha7, ha8, ha9, ha10, ha11, ha12, ha13, ha14, ha15, ha16, ha17, ha18, ha19⟩ := id hM
  obtain ⟨ht, hn, hlm, hdn, hhn, has, hpl, hkw, hRB, hpg, hkp⟩ := id hR
  obtain ⟨hn5, hl5, hkd, hsp, hd6, hdw, hh6, hg18, hgr, hIm⟩ := id hL
  refine xaload_n hx hb dX12_boundNow_0 hl rfl ?_
  refine xiload_n hx hb dX12_boundNow_1 hl rfl ?_
  refine xVv ⟨hx, hb, hml, hown, hts⟩ (kX12_think l N0 G _ _ V A hM S hR hL i hi hall) (cwV 1 hts gX12_boundNow_X12_think rfl rfl rfl (by decide +kernel) ⟨Nat.le_of_ble_eq_true rfl, Nat.le_of_ble_eq_true rfl⟩) hG hN hw hS (ci := 12) (by repeat first | assumption | exact wu_eq _ _ _ | refine wu_ne (by omega) ?_) rfl rfl hl.1 rfl (Nat.le_of_ble_eq_true rfl) dX12_boundNow_2 ⟨Nat.le_of_ble_eq_true rfl, Nat.le_of_ble_eq_true rfl⟩ (fun r2 w2 H locs hp2 hw hS => ?_)
  obtain ⟨A1, hM1, hN1, hT1, hO1⟩ := hp2
  have hm01 := hM1.1
  have hR1 := rm_nk hR hN1
  have hddl := dd_len (n := 5) (h := sp S i) (fun x hx => Nat.lt_of_lt_of_le (hall x hx) hn5)
  refine xaload_n hx hb dX12_boundNow_5 hl rfl ?_
  refine xiload_n hx hb dX12_boundNow_6 hl rfl ?_
  refine xVi ⟨hx, hb, hml, hown, hts⟩ (kX12_boundThought l N0 G _ _ V A1 hM1 S hR1 hL i hi _ _ hT1 (fun x hx => hall x (dd_sub _ hx)) hddl) (cwV 1 hts gX12_boundNow_X12_boundThought rfl rfl rfl (by decide +kernel) ⟨Nat.le_of_ble_eq_true rfl, Nat.le_of_ble_eq_true rfl⟩) hG hN hw hS (ci := 12) (by repeat first | assumption | exact wu_eq _ _ _ | refine wu_ne (by omega) ?_) rfl rfl hl.1 rfl (Nat.le_of_ble_eq_true rfl) dX12_boundNow_7 ⟨Nat.le_of_ble_eq_true rfl, Nat.le_of_ble_eq_true rfl⟩ (fun r7 w7 H locs hp7 hw hS => ?_)
  obtain ⟨rfl, rfl⟩ := hp7
  exact xiret hx hb hr hlk hw hS dX12_boundNow_10 ⟨rfl, A1, hM1, hN1, hO1⟩
