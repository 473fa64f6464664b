theorem tb_if (b p : Nat) : b / 2 ^ p % 2 = if b.testBit p = true then 1 else 0 := by
  rw [testBit_dm]
  by_cases z : b / 2 ^ p % 2 = 1
  · rw [if_pos (decide_eq_true z), z]
  · rw [if_neg (fun w => z (of_decide_eq_true w))]
    have := Nat.mod_lt (b / 2 ^ p) (show 0 < 2 by omega)
    omega
set_option maxHeartbeats 4000000 in
set_option maxRecDepth 100000 in
theorem kX12_pensOf (l : Launch) (N0 : Nat) (G : XG) (w : Wd) (M0 : Nat) (V : Nat → Value) (A : Nat → Nat → Int32) (hM : MW G w M0 V A) (S : QS) (hR : RM S V A) (hL : WB S) (hpa : ∀ i, i < sn S → ∀ x ∈ sp S i, x < sn S) (p1 : Nat) (hp1 : p1 < sn S) : XM l yX12_pensOf wsX12_pensOf (rmD 2) N0 G [.ref M0, .int (nI p1)] w vI (fun r w1 => nI (sumTo (fun i => if (sp S i).getD 0 0 = p1 then 1 else 0) (sn S)) = r ∧ w = w1) 0 0 := by
  refine XM.of (cc := cX12_pensOf) (maxL := 4) (ret := (some .int)) (by decide) rfl (Nat.le_of_ble_eq_true rfl) ?_
  intro p e s m below meth c hx hb hr hlk hin0 hml hown hts hN hw hG hS ls hl
  have hown : s.vm.findClass RX12 = some m.cls := hown
  have hiX12 : ∀ x ∈ u_ws RX12 TX12 37, x ∈ wsX12_pensOf := by decide +kernel
  have hlnk0 := hts (.fieldLink RX12 94 "LentQuillModel" "people" "I") (by decide +kernel)
  have hl : lh ls 4 [some (.ref M0), some (.int (nI p1)), none, none] := hl
  obtain ⟨hm0, ⟨hv3, hv4, hv5, hv6, hv8, hv9, hv11, hv12, hv15, hv18, hv19, hv20, hv24, hv30, hv31, hv32, hv33, hv34, hv35⟩, ha1, ha2, ha3, ha4, ha5, ha6, ha7, ha8, ha9, ha10, ha11, ha12, ha13, ha14, ha15, ha16, ha17, ha18, ha19⟩ := id hM
  obtain ⟨ht, hn, hlm, hdn, hhn, has, hpl, hkw, hRB, hpg, hkp⟩ := id hR
  obtain ⟨hn5, hl5, hkd, hsp, hd6, hdw, hh6, hg18, hgr, hIm⟩ := id hL
  refine lv_iconst (v := nI 0) hx hb dX12_pensOf_0 (by decide) ?_
  refine xistore_n hx hb dX12_pensOf_1 hl (by decide) rfl (fun ls hl => ?_)
  refine lv_iconst (v := nI 0) hx hb dX12_pensOf_2 (by decide) ?_
  refine xistore_n hx hb dX12_pensOf_3 hl (by decide) rfl (fun ls hl => ?_)
  have loop4 : ∀ (nf : Nat) (k : Nat) (H : Heap) (locs : List Loc) (ls : Array Slot), sn S - k < nf → (k ≤ sn S) → PW N0 G w H → va_S (fun q => N0 ≤ q) s.heap H locs → lh ls 4 [some (.ref M0), some (.int (nI p1)), some (.int (nI (sumTo (fun i => if (sp S i).getD 0 0 = p1 then 1 else 0) k))), some (.int (nI k))] → W p l e (rmD 2) s m ([.ref M0, .int (nI p1)] : List Value).toArray below meth c H locs 0 0 (MQ below (XQ N0 G vI (fun r w1 => nI (sumTo (fun i => if (sp S i).getD 0 0 = p1 then 1 else 0) (sn S)) = r ∧ w = w1)) ([.ref M0, .int (nI p1)] : List Value).toArray s 0 0 (fun q => N0 ≤ q)) (F0 m 4 ls []) := by
    intro nf
    induction nf with
    | zero => intros; omega
    | succ nf ih4 =>
      intro k H locs ls hnf hk hw hS hl
      refine xiload_n hx hb dX12_pensOf_4 hl rfl ?_
      refine xaload_n hx hb dX12_pensOf_5 hl rfl ?_
      refine xgetM hx hb hts hiX12 hown hG hw (by repeat first | assumption | exact wu_eq _ _ _ | refine wu_ne (by omega) ?_) 1 (by decide) hlnk0 (by repeat first | assumption | exact vu_eq _ _ _ | refine vu_ne (by decide) ?_) dX12_pensOf_6 ?_
      first | refine xcmp_ge (tgt := 35) hx hb dX12_pensOf_9 (by decide) (by omega) (by omega) (fun c9 => ?_) (fun c9 => ?_) | refine lv_icmp_ge (tgt := 35) hx hb dX12_pensOf_9 (by decide) (fun c9 => ?_) (fun c9 => ?_)
      · skip
        refine xiload_n hx hb dX12_pensOf_35 hl rfl ?_
        exact xiret hx hb hr hlk hw hS dX12_pensOf_36 ⟨by rw [show sn S = k by omega], rfl⟩
      · skip
        have hg0 : (sp S k).getD 0 0 < sn S := getD_lt (hpa k (by omega)) (by have := (hsp k (by omega)).1; omega)
        refine xiload_n hx hb dX12_pensOf_12 hl rfl ?_
        refine xaload_n hx hb dX12_pensOf_13 hl rfl ?_
        refine xiload_n hx hb dX12_pensOf_14 hl rfl ?_
        refine xVi ⟨hx, hb, hml, hown, hts⟩ (kX12_holder l N0 G _ _ V A hM S hR hL k (by omega)) (cwV 1 hts gX12_pensOf_X12_holder rfl rfl rfl (by decide +kernel) ⟨Nat.le_of_ble_eq_true rfl, Nat.le_of_ble_eq_true rfl⟩) hG hN hw hS (ci := 12) (by repeat first | assumption | exact wu_eq _ _ _ | refine wu_ne (by omega) ?_) rfl rfl hl.1 rfl (Nat.le_of_ble_eq_true rfl) dX12_pensOf_15 ⟨Nat.le_of_ble_eq_true rfl, Nat.le_of_ble_eq_true rfl⟩ (fun r15 w15 H locs hp15 hw hS => ?_)
        obtain ⟨rfl, rfl⟩ := hp15
        refine xiload_n hx hb dX12_pensOf_18 hl rfl ?_
        first | refine xcmp_ne (tgt := 26) hx hb dX12_pensOf_19 (by decide) (by omega) (by omega) (fun c19 => ?_) (fun c19 => ?_) | refine lv_icmp_ne (tgt := 26) hx hb dX12_pensOf_19 (by decide) (fun c19 => ?_) (fun c19 => ?_)
        · skip
          refine lv_iconst (v := nI 0) hx hb dX12_pensOf_26 (by decide) ?_
          refine xtop (y := nI (if (sp S k).getD 0 0 = p1 then 1 else 0)) (by first | rw [if_pos c19] | rw [if_neg c19]) ?_
          first | refine xadd hx hb dX12_pensOf_27 ?_ | refine lv_iadd hx hb dX12_pensOf_27 ?_
          refine xistore_n hx hb dX12_pensOf_28 hl (by decide) rfl (fun ls hl => ?_)
          first | refine xiincN hx hb 1 dX12_pensOf_29 hl rfl (by decide) (by decide) rfl (fun ls hl => ?_) | refine xiinc hx hb dX12_pensOf_29 hl rfl rfl (by decide) rfl (fun ls hl => ?_)
          refine lv_goto (tgt := 4) hx hb dX12_pensOf_32 (by decide) ?_
          exact ih4 (k + 1) _ _ _ (by omega) (by omega) hw hS hl
        · skip
          refine lv_iconst (v := nI 1) hx hb dX12_pensOf_22 (by decide) ?_
          refine lv_goto (tgt := 27) hx hb dX12_pensOf_23 (by decide) ?_
          refine xtop (y := nI (if (sp S k).getD 0 0 = p1 then 1 else 0)) (by first | rw [if_pos c19] | rw [if_neg c19]) ?_
          first | refine xadd hx hb dX12_pensOf_27 ?_ | refine lv_iadd hx hb dX12_pensOf_27 ?_
          refine xistore_n hx hb dX12_pensOf_28 hl (by decide) rfl (fun ls hl => ?_)
          first | refine xiincN hx hb 1 dX12_pensOf_29 hl rfl (by decide) (by decide) rfl (fun ls hl => ?_) | refine xiinc hx hb dX12_pensOf_29 hl rfl rfl (by decide) rfl (fun ls hl => ?_)
          refine lv_goto (tgt := 4) hx hb dX12_pensOf_32 (by decide) ?_
          exact ih4 (k + 1) _ _ _ (by omega) (by omega) hw hS hl
  exact loop4 (sn S + 1) 0 _ _ _ (by omega) (by omega) hw hS hl
set_option maxHeartbeats 4000000 in
set_option maxRecDepth 100000 in
theorem kX12_deedsOf (l : Launch) (N0 : Nat) (G : XG) (w : Wd) (M0 : Nat) (V : Nat → Value) (A : Nat → Nat → Int32) (hM : MW G w M0 V A) (S : QS) (hR : RM S V A) (hL : WB S) (p1 : Nat) (hp1 : p1 < sn S) : XM l yX12_deedsOf wsX12_deedsOf (rmD 1) N0 G [.ref M0, .int (nI p1)] w vI (fun r w1 => nI (sumTo (fun i => if (bd (sd S) i).testBit p1 = true then 1 else 0) (sd S).length) = r ∧ w = w1) 0 0 := by
  refine XM.of (cc := cX12_deedsOf) (maxL := 4) (ret := (some .int)) (by decide) rfl (Nat.le_of_ble_eq_true rfl) ?_
  intro p e s m below meth c hx hb hr hlk hin0 hml hown hts hN hw hG hS ls hl
  have hown : s.vm.findClass RX12 = some m.cls := hown
  have hiX12 : ∀ x ∈ u_ws RX12 TX12 37, x ∈ wsX12_deedsOf := by decide +kernel
  have hlnk0 := hts (.fieldLink RX12 103 "LentQuillModel" "deeds" "I") (by decide +kernel)
  have hlnk1 := hts (.fieldLink RX12 25 "LentQuillModel" "boundOf" "[I") (by decide +kernel)
  have hl : lh ls 4 [some (.ref M0), some (.int (nI p1)), none, none] := hl
  obtain ⟨hm0, ⟨hv3, hv4, hv5, hv6, hv8, hv9, hv11, hv12, hv15, hv18, hv19, hv20, hv24, hv30, hv31, hv32, hv33, hv34, hv35⟩, ha1, ha2, ha3, ha4, ha5, ha6, ha7, ha8, ha9, ha10, ha11, ha12, ha13, ha14, ha15, ha16, ha17, ha18, ha19⟩ := id hM
  obtain ⟨ht, hn, hlm, hdn, hhn, has, hpl, hkw, hRB, hpg, hkp⟩ := id hR
  obtain ⟨hn5, hl5, hkd, hsp, hd6, hdw, hh6, hg18, hgr, hIm⟩ := id hL
  refine lv_iconst (v := nI 0) hx hb dX12_deedsOf_0 (by decide) ?_
  refine xistore_n hx hb dX12_deedsOf_1 hl (by decide) rfl (fun ls hl => ?_)
  refine lv_iconst (v := nI 0) hx hb dX12_deedsOf_2 (by decide) ?_
  refine xistore_n hx hb dX12_deedsOf_3 hl (by decide) rfl (fun ls hl => ?_)
  have loop4 : ∀ (nf : Nat) (k : Nat) (H : Heap) (locs : List Loc) (ls : Array Slot), (sd S).length - k < nf → (k ≤ (sd S).length) → PW N0 G w H → va_S (fun q => N0 ≤ q) s.heap H locs → lh ls 4 [some (.ref M0), some (.int (nI p1)), some (.int (nI (sumTo (fun i => if (bd (sd S) i).testBit p1 = true then 1 else 0) k))), some (.int (nI k))] → W p l e (rmD 1) s m ([.ref M0, .int (nI p1)] : List Value).toArray below meth c H locs 0 0 (MQ below (XQ N0 G vI (fun r w1 => nI (sumTo (fun i => if (bd (sd S) i).testBit p1 = true then 1 else 0) (sd S).length) = r ∧ w = w1)) ([.ref M0, .int (nI p1)] : List Value).toArray s 0 0 (fun q => N0 ≤ q)) (F0 m 4 ls []) := by
    intro nf
    induction nf with
    | zero => intros; omega
    | succ nf ih4 =>
      intro k H locs ls hnf hk hw hS hl
      refine xiload_n hx hb dX12_deedsOf_4 hl rfl ?_
      refine xaload_n hx hb dX12_deedsOf_5 hl rfl ?_
      refine xgetM hx hb hts hiX12 hown hG hw (by repeat first | assumption | exact wu_eq _ _ _ | refine wu_ne (by omega) ?_) 7 (by decide) hlnk0 (by repeat first | assumption | exact vu_eq _ _ _ | refine vu_ne (by decide) ?_) dX12_deedsOf_6 ?_
      first | refine xcmp_ge (tgt := 31) hx hb dX12_deedsOf_9 (by decide) (by omega) (by omega) (fun c9 => ?_) (fun c9 => ?_) | refine lv_icmp_ge (tgt := 31) hx hb dX12_deedsOf_9 (by decide) (fun c9 => ?_) (fun c9 => ?_)
      · skip
        refine xiload_n hx hb dX12_deedsOf_31 hl rfl ?_
        exact xiret hx hb hr hlk hw hS dX12_deedsOf_32 ⟨by rw [show (sd S).length = k by omega], rfl⟩
      · skip
        have hb6 : A 6 k = nI (bd (sd S) k) := (hRB.2.1 k (by show k < (sd S).length; omega)).2
        have hb32 := (hdw k (by omega)).2
        refine xiload_n hx hb dX12_deedsOf_12 hl rfl ?_
        refine xaload_n hx hb dX12_deedsOf_13 hl rfl ?_
        refine xgetM hx hb hts hiX12 hown hG hw (by repeat first | assumption | exact wu_eq _ _ _ | refine wu_ne (by omega) ?_) 9 (by decide) hlnk1 (by repeat first | assumption | exact vu_eq _ _ _ | refine vu_ne (by decide) ?_) dX12_deedsOf_14 ?_
        refine xiload_n hx hb dX12_deedsOf_17 hl rfl ?_
        refine xiald hx hb hG hw (by repeat first | assumption | exact wu_eq _ _ _ | refine wu_ne (by omega) ?_) (by omega) (by omega) dX12_deedsOf_18 ?_
        refine xtop hb6 ?_
        refine xiload_n hx hb dX12_deedsOf_19 hl rfl ?_
        first | refine xshr hx hb dX12_deedsOf_20 (by omega) (by omega) ?_ | refine lv_ishr hx hb dX12_deedsOf_20 ?_
        refine lv_iconst (v := nI 1) hx hb dX12_deedsOf_21 (by decide) ?_
        refine xand1 hx hb dX12_deedsOf_22 ?_
        refine xtop (y := nI (if (bd (sd S) k).testBit p1 = true then 1 else 0)) (congrArg nI (tb_if _ _)) ?_
        first | refine xadd hx hb dX12_deedsOf_23 ?_ | refine lv_iadd hx hb dX12_deedsOf_23 ?_
        refine xistore_n hx hb dX12_deedsOf_24 hl (by decide) rfl (fun ls hl => ?_)
        first | refine xiincN hx hb 1 dX12_deedsOf_25 hl rfl (by decide) (by decide) rfl (fun ls hl => ?_) | refine xiinc hx hb dX12_deedsOf_25 hl rfl rfl (by decide) rfl (fun ls hl => ?_)
        refine lv_goto (tgt := 4) hx hb dX12_deedsOf_28 (by decide) ?_
        exact ih4 (k + 1) _ _ _ (by omega) (by omega) hw hS hl
  exact loop4 ((sd S).length + 1) 0 _ _ _ (by omega) (by omega) hw hS hl
set_option maxHeartbeats 4000000 in
set_option maxRecDepth 100000 in
theorem kX12_lentAll (l : Launch) (N0 : Nat) (G : XG) (w : Wd) (M0 : Nat) (V : Nat → Value) (A : Nat → Nat → Int32) (hM : MW G w M0 V A) (S : QS) (hR : RM S V A) (hL : WB S) : XM l yX12_lentAll wsX12_lentAll (rmD 1) N0 G [.ref M0] w vI (fun r w1 => nI (lentN (sB S) (sn S)) = r ∧ w = w1) 0 0 := by
  refine XM.of (cc := cX12_lentAll) (maxL := 3) (ret := (some .int)) (by decide) rfl (Nat.le_of_ble_eq_true rfl) ?_
  intro p e s m below meth c hx hb hr hlk hin0 hml hown hts hN hw hG hS ls hl
  have hown : s.vm.findClass RX12 = some m.cls := hown
  have hiX12 : ∀ x ∈ u_ws RX12 TX12 37, x ∈ wsX12_lentAll := by decide +kernel
  have hlnk0 := hts (.fieldLink RX12 94 "LentQuillModel" "people" "I") (by decide +kernel)
  have hlnk1 := hts (.fieldLink RX12 19 "LentQuillModel" "lentOf" "[I") (by decide +kernel)
  have hl : lh ls 3 [some (.ref M0), none, none] := hl
  obtain ⟨hm0, ⟨hv3, hv4, hv5, hv6, hv8, hv9, hv11, hv12, hv15, hv18, hv19, hv20, hv24, hv30, hv31, hv32, hv33, hv34, hv35⟩, ha1, ha2, ha3, ha4, ha5, ha6, ha7, ha8, ha9, ha10, ha11, ha12, ha13, ha14, ha15, ha16, ha17, ha18, ha19⟩ := id hM
  obtain ⟨ht, hn, hlm, hdn, hhn, has, hpl, hkw, hRB, hpg, hkp⟩ := id hR
  obtain ⟨hn5, hl5, hkd, hsp, hd6, hdw, hh6, hg18, hgr, hIm⟩ := id hL
  refine lv_iconst (v := nI 0) hx hb dX12_lentAll_0 (by decide) ?_
  refine xistore_n hx hb dX12_lentAll_1 hl (by decide) rfl (fun ls hl => ?_)
  refine lv_iconst (v := nI 0) hx hb dX12_lentAll_2 (by decide) ?_
  refine xistore_n hx hb dX12_lentAll_3 hl (by decide) rfl (fun ls hl => ?_)
  have loop4 : ∀ (nf : Nat) (k : Nat) (H : Heap) (locs : List Loc) (ls : Array Slot), sn S - k < nf → (k ≤ sn S) → PW N0 G w H → va_S (fun q => N0 ≤ q) s.heap H locs → lh ls 3 [some (.ref M0), some (.int (nI (lentN (sB S) k))), some (.int (nI k))] → W p l e (rmD 1) s m ([.ref M0] : List Value).toArray below meth c H locs 0 0 (MQ below (XQ N0 G vI (fun r w1 => nI (lentN (sB S) (sn S)) = r ∧ w = w1)) ([.ref M0] : List Value).toArray s 0 0 (fun q => N0 ≤ q)) (F0 m 4 ls []) := by
    intro nf
    induction nf with
    | zero => intros; omega
    | succ nf ih4 =>
      intro k H locs ls hnf hk hw hS hl
      refine xiload_n hx hb dX12_lentAll_4 hl rfl ?_
      refine xaload_n hx hb dX12_lentAll_5 hl rfl ?_
      refine xgetM hx hb hts hiX12 hown hG hw (by repeat first | assumption | exact wu_eq _ _ _ | refine wu_ne (by omega) ?_) 1 (by decide) hlnk0 (by repeat first | assumption | exact vu_eq _ _ _ | refine vu_ne (by decide) ?_) dX12_lentAll_6 ?_
      first | refine xcmp_ge (tgt := 27) hx hb dX12_lentAll_9 (by decide) (by omega) (by omega) (fun c9 => ?_) (fun c9 => ?_) | refine lv_icmp_ge (tgt := 27) hx hb dX12_lentAll_9 (by decide) (fun c9 => ?_) (fun c9 => ?_)
      · skip
        refine xiload_n hx hb dX12_lentAll_27 hl rfl ?_
        exact xiret hx hb hr hlk hw hS dX12_lentAll_28 ⟨by rw [show sn S = k by omega], rfl⟩
      · skip
        refine xiload_n hx hb dX12_lentAll_12 hl rfl ?_
        refine xaload_n hx hb dX12_lentAll_13 hl rfl ?_
        refine xgetM hx hb hts hiX12 hown hG hw (by repeat first | assumption | exact wu_eq _ _ _ | refine wu_ne (by omega) ?_) 6 (by decide) hlnk1 (by repeat first | assumption | exact vu_eq _ _ _ | refine vu_ne (by decide) ?_) dX12_lentAll_14 ?_
        refine xiload_n hx hb dX12_lentAll_17 hl rfl ?_
        refine xiald hx hb hG hw (by repeat first | assumption | exact wu_eq _ _ _ | refine wu_ne (by omega) ?_) (by omega) (by omega) dX12_lentAll_18 ?_
        refine xtop ((hRB.1 k (by omega)).1) ?_
        first | refine xadd hx hb dX12_lentAll_19 ?_ | refine lv_iadd hx hb dX12_lentAll_19 ?_
        refine xistore_n hx hb dX12_lentAll_20 hl (by decide) rfl (fun ls hl => ?_)
        first | refine xiincN hx hb 1 dX12_lentAll_21 hl rfl (by decide) (by decide) rfl (fun ls hl => ?_) | refine xiinc hx hb dX12_lentAll_21 hl rfl rfl (by decide) rfl (fun ls hl => ?_)
        refine lv_goto (tgt := 4) hx hb dX12_lentAll_24 (by decide) ?_
        exact ih4 (k + 1) _ _ _ (by omega) (by omega) hw hS hl
  exact loop4 (sn S + 1) 0 _ _ _ (by omega) (by omega) hw hS hl
set_option maxHeartbeats 4000000 in
set_option maxRecDepth 100000 in
theorem kX12_voids (l : Launch) (N0 : Nat) (G : XG) (w : Wd) (M0 : Nat) (V : Nat → Value) (A : Nat → Nat → Int32) (hM : MW G w M0 V A) (S : QS) (hR : RM S V A) (hL : WB S) : XM l yX12_voids wsX12_voids (rmD 1) N0 G [.ref M0] w vI (fun r w1 => nI (sumTo (fun i => if bd (sd S) i = 0 then 1 else 0) (sd S).length) = r ∧ w = w1) 0 0 := by
  refine XM.of (cc := cX12_voids) (maxL := 3) (ret := (some .int)) (by decide) rfl (Nat.le_of_ble_eq_true rfl) ?_
  intro p e s m below meth c hx hb hr hlk hin0 hml hown hts hN hw hG hS ls hl
  have hown : s.vm.findClass RX12 = some m.cls := hown
  have hiX12 : ∀ x ∈ u_ws RX12 TX12 37, x ∈ wsX12_voids := by decide +kernel
  have hlnk0 := hts (.fieldLink RX12 103 "LentQuillModel" "deeds" "I") (by decide +kernel)
  have hlnk1 := hts (.fieldLink RX12 25 "LentQuillModel" "boundOf" "[I") (by decide +kernel)
  have hl : lh ls 3 [some (.ref M0), none, none] := hl
  obtain ⟨hm0, ⟨hv3, hv4, hv5, hv6, hv8, hv9, hv11, hv12, hv15, hv18, hv19, hv20, hv24, hv30, hv31, hv32, hv33, hv34, hv35⟩, ha1, ha2, ha3, ha4, ha5, ha6, ha7, ha8, ha9, ha10, ha11, ha12, ha13, ha14, ha15, ha16, ha17, ha18, ha19⟩ := id hM
  obtain ⟨ht, hn, hlm, hdn, hhn, has, hpl, hkw, hRB, hpg, hkp⟩ := id hR
  obtain ⟨hn5, hl5, hkd, hsp, hd6, hdw, hh6, hg18, hgr, hIm⟩ := id hL
  refine lv_iconst (v := nI 0) hx hb dX12_voids_0 (by decide) ?_
  refine xistore_n hx hb dX12_voids_1 hl (by decide) rfl (fun ls hl => ?_)
  refine lv_iconst (v := nI 0) hx hb dX12_voids_2 (by decide) ?_
  refine xistore_n hx hb dX12_voids_3 hl (by decide) rfl (fun ls hl => ?_)
  have loop4 : ∀ (nf : Nat) (k : Nat) (H : Heap) (locs : List Loc) (ls : Array Slot), (sd S).length - k < nf → (k ≤ (sd S).length) → PW N0 G w H → va_S (fun q => N0 ≤ q) s.heap H locs → lh ls 3 [some (.ref M0), some (.int (nI (sumTo (fun i => if bd (sd S) i = 0 then 1 else 0) k))), some (.int (nI k))] → W p l e (rmD 1) s m ([.ref M0] : List Value).toArray below meth c H locs 0 0 (MQ below (XQ N0 G vI (fun r w1 => nI (sumTo (fun i => if bd (sd S) i = 0 then 1 else 0) (sd S).length) = r ∧ w = w1)) ([.ref M0] : List Value).toArray s 0 0 (fun q => N0 ≤ q)) (F0 m 4 ls []) := by
    intro nf
    induction nf with
    | zero => intros; omega
    | succ nf ih4 =>
      intro k H locs ls hnf hk hw hS hl
      refine xiload_n hx hb dX12_voids_4 hl rfl ?_
      refine xaload_n hx hb dX12_voids_5 hl rfl ?_
      refine xgetM hx hb hts hiX12 hown hG hw (by repeat first | assumption | exact wu_eq _ _ _ | refine wu_ne (by omega) ?_) 7 (by decide) hlnk0 (by repeat first | assumption | exact vu_eq _ _ _ | refine vu_ne (by decide) ?_) dX12_voids_6 ?_
      first | refine xcmp_ge (tgt := 35) hx hb dX12_voids_9 (by decide) (by omega) (by omega) (fun c9 => ?_) (fun c9 => ?_) | refine lv_icmp_ge (tgt := 35) hx hb dX12_voids_9 (by decide) (fun c9 => ?_) (fun c9 => ?_)
      · skip
        refine xiload_n hx hb dX12_voids_35 hl rfl ?_
        exact xiret hx hb hr hlk hw hS dX12_voids_36 ⟨by rw [show (sd S).length = k by omega], rfl⟩
      · skip
        have hb6 : A 6 k = nI (bd (sd S) k) := (hRB.2.1 k (by show k < (sd S).length; omega)).2
        have hb32 := (hdw k (by omega)).2
        refine xiload_n hx hb dX12_voids_12 hl rfl ?_
        refine xaload_n hx hb dX12_voids_13 hl rfl ?_
        refine xgetM hx hb hts hiX12 hown hG hw (by repeat first | assumption | exact wu_eq _ _ _ | refine wu_ne (by omega) ?_) 9 (by decide) hlnk1 (by repeat first | assumption | exact vu_eq _ _ _ | refine vu_ne (by decide) ?_) dX12_voids_14 ?_
        refine xiload_n hx hb dX12_voids_17 hl rfl ?_
        refine xiald hx hb hG hw (by repeat first | assumption | exact wu_eq _ _ _ | refine wu_ne (by omega) ?_) (by omega) (by omega) dX12_voids_18 ?_
        refine xtop hb6 ?_
        first | refine xifb_ne (tgt := 26) hx hb dX12_voids_19 (by decide) (fun c19 => ?_) (fun c19 => ?_) | refine xif_ne (tgt := 26) hx hb dX12_voids_19 (by decide) (by omega) (fun c19 => ?_) (fun c19 => ?_) | refine lv_if_ne (tgt := 26) hx hb dX12_voids_19 (by decide) (fun c19 => ?_) (fun c19 => ?_)
        · skip
          refine lv_iconst (v := nI 0) hx hb dX12_voids_26 (by decide) ?_
          refine xtop (y := nI (if bd (sd S) k = 0 then 1 else 0)) (by first | rw [if_pos c19] | rw [if_neg c19]) ?_
          first | refine xadd hx hb dX12_voids_27 ?_ | refine lv_iadd hx hb dX12_voids_27 ?_
          refine xistore_n hx hb dX12_voids_28 hl (by decide) rfl (fun ls hl => ?_)
          first | refine xiincN hx hb 1 dX12_voids_29 hl rfl (by decide) (by decide) rfl (fun ls hl => ?_) | refine xiinc hx hb dX12_voids_29 hl rfl rfl (by decide) rfl (fun ls hl => ?_)
          refine lv_goto (tgt := 4) hx hb dX12_voids_32 (by decide) ?_
          exact ih4 (k + 1) _ _ _ (by omega) (by omega) hw hS hl
        · skip
          refine lv_iconst (v := nI 1) hx hb dX12_voids_22 (by decide) ?_
          refine lv_goto (tgt := 27) hx hb dX12_voids_23 (by decide) ?_
          refine xtop (y := nI (if bd (sd S) k = 0 then 1 else 0)) (by first | rw [if_pos c19] | rw [if_neg c19]) ?_
          first | refine xadd hx hb dX12_voids_27 ?_ | refine lv_iadd hx hb dX12_voids_27 ?_
          refine xistore_n hx hb dX12_voids_28 hl (by decide) rfl (fun ls hl => ?_)
          first | refine xiincN hx hb 1 dX12_voids_29 hl rfl (by decide) (by decide) rfl (fun ls hl => ?_) | refine xiinc hx hb dX12_voids_29 hl rfl rfl (by decide) rfl (fun ls hl => ?_)
          refine lv_goto (tgt := 4) hx hb dX12_voids_32 (by decide) ?_
          exact ih4 (k + 1) _ _ _ (by omega) (by omega) hw hS hl
  exact loop4 ((sd S).length + 1) 0 _ _ _ (by omega) (by omega) hw hS hl
set_option maxHeartbeats 4000000 in
set_option maxRecDepth 100000 in
theorem kX12_sureOf (l : Launch) (N0 : Nat) (G : XG) (w : Wd) (M0 : Nat) (V : Nat → Value) (A : Nat → Nat → Int32) (hM : MW G w M0 V A) (S : QS) (hR : RM S V A) (hL : WB S) (d : Nat) (hd : d < (sd S).length) : XM l yX12_sureOf wsX12_sureOf (rmD 2) N0 G [.ref M0, .int (nI d)] w vI (fun r w1 => nI (sure (sP S) (bd (sd S) d) (sn S)) = r ∧ w = w1) 0 0 := by
  refine XM.of (cc := cX12_sureOf) (maxL := 4) (ret := (some .int)) (by decide) rfl (Nat.le_of_ble_eq_true rfl) ?_
  intro p e s m below meth c hx hb hr hlk hin0 hml hown hts hN hw hG hS ls hl
  have hown : s.vm.findClass RX12 = some m.cls := hown
  have hiX12 : ∀ x ∈ u_ws RX12 TX12 37, x ∈ wsX12_sureOf := by decide +kernel
  have hlnk0 := hts (.fieldLink RX12 94 "LentQuillModel" "people" "I") (by decide +kernel)
  have hlnk1 := hts (.fieldLink RX12 25 "LentQuillModel" "boundOf" "[I") (by decide +kernel)
  have hl : lh ls 4 [some (.ref M0), some (.int (nI d)), none, none] := hl
  obtain ⟨hm0, ⟨hv3, hv4, hv5, hv6, hv8, hv9, hv11, hv12, hv15, hv18, hv19, hv20, hv24, hv30, hv31, hv32, hv33, hv34, hv35⟩, ha1, ha2, ha3, ha4, ha5, ha6, ha7, ha8, ha9, ha10, ha11, ha12, ha13, ha14, ha15, ha16, ha17, ha18, ha19⟩ := id hM
  obtain ⟨ht, hn, hlm, hdn, hhn, has, hpl, hkw, hRB, hpg, hkp⟩ := id hR
  obtain ⟨hn5, hl5, hkd, hsp, hd6, hdw, hh6, hg18, hgr, hIm⟩ := id hL
  have hb6 : A 6 d = nI (bd (sd S) d) := (hRB.2.1 d hd).2
  have hb32 := (hdw d hd).2
  refine lv_iconst (v := nI 0) hx hb dX12_sureOf_0 (by decide) ?_
  refine xistore_n hx hb dX12_sureOf_1 hl (by decide) rfl (fun ls hl => ?_)
  refine lv_iconst (v := nI 0) hx hb dX12_sureOf_2 (by decide) ?_
  refine xistore_n hx hb dX12_sureOf_3 hl (by decide) rfl (fun ls hl => ?_)
  have loop4 : ∀ (nf : Nat) (k : Nat) (H : Heap) (locs : List Loc) (ls : Array Slot), sn S - k < nf → (k ≤ sn S) → PW N0 G w H → va_S (fun q => N0 ≤ q) s.heap H locs → lh ls 4 [some (.ref M0), some (.int (nI d)), some (.int (nI (sure (sP S) (bd (sd S) d) k))), some (.int (nI k))] → W p l e (rmD 2) s m ([.ref M0, .int (nI d)] : List Value).toArray below meth c H locs 0 0 (MQ below (XQ N0 G vI (fun r w1 => nI (sure (sP S) (bd (sd S) d) (sn S)) = r ∧ w = w1)) ([.ref M0, .int (nI d)] : List Value).toArray s 0 0 (fun q => N0 ≤ q)) (F0 m 4 ls []) := by
    intro nf
    induction nf with
    | zero => intros; omega
    | succ nf ih4 =>
      intro k H locs ls hnf hk hw hS hl
      refine xiload_n hx hb dX12_sureOf_4 hl rfl ?_
      refine xaload_n hx hb dX12_sureOf_5 hl rfl ?_
      refine xgetM hx hb hts hiX12 hown hG hw (by repeat first | assumption | exact wu_eq _ _ _ | refine wu_ne (by omega) ?_) 1 (by decide) hlnk0 (by repeat first | assumption | exact vu_eq _ _ _ | refine vu_ne (by decide) ?_) dX12_sureOf_6 ?_
      first | refine xcmp_ge (tgt := 43) hx hb dX12_sureOf_9 (by decide) (by omega) (by omega) (fun c9 => ?_) (fun c9 => ?_) | refine lv_icmp_ge (tgt := 43) hx hb dX12_sureOf_9 (by decide) (fun c9 => ?_) (fun c9 => ?_)
      · skip
        refine xiload_n hx hb dX12_sureOf_43 hl rfl ?_
        exact xiret hx hb hr hlk hw hS dX12_sureOf_44 ⟨by rw [show sn S = k by omega], rfl⟩
      · skip
        refine xiload_n hx hb dX12_sureOf_12 hl rfl ?_
        refine xaload_n hx hb dX12_sureOf_13 hl rfl ?_
        refine xgetM hx hb hts hiX12 hown hG hw (by repeat first | assumption | exact wu_eq _ _ _ | refine wu_ne (by omega) ?_) 9 (by decide) hlnk1 (by repeat first | assumption | exact vu_eq _ _ _ | refine vu_ne (by decide) ?_) dX12_sureOf_14 ?_
        refine xiload_n hx hb dX12_sureOf_17 hl rfl ?_
        refine xiald hx hb hG hw (by repeat first | assumption | exact wu_eq _ _ _ | refine wu_ne (by omega) ?_) (by omega) (by omega) dX12_sureOf_18 ?_
        refine xtop hb6 ?_
        refine xiload_n hx hb dX12_sureOf_19 hl rfl ?_
        refine xSi ⟨hx, hb, hml, hown, hts⟩ (kX12_isIn l N0 G _ _ k hb32 (by omega)) (va_cwS 2 hts gX12_sureOf_X12_isIn rfl rfl rfl (by decide +kernel) ⟨Nat.le_of_ble_eq_true rfl, Nat.le_of_ble_eq_true rfl⟩) hG hN hw hS rfl hl.1 rfl (Nat.le_of_ble_eq_true rfl) dX12_sureOf_20 ⟨Nat.le_of_ble_eq_true rfl, Nat.le_of_ble_eq_true rfl⟩ (fun r20 w20 H locs hp20 hw hS => ?_)
        obtain ⟨rfl, rfl⟩ := hp20
        first | refine xifb_eq (tgt := 34) hx hb dX12_sureOf_23 (by decide) (fun c23 => ?_) (fun c23 => ?_) | refine xif_eq (tgt := 34) hx hb dX12_sureOf_23 (by decide) (by omega) (fun c23 => ?_) (fun c23 => ?_) | refine lv_if_eq (tgt := 34) hx hb dX12_sureOf_23 (by decide) (fun c23 => ?_) (fun c23 => ?_)
        · skip
          refine lv_iconst (v := nI 0) hx hb dX12_sureOf_34 (by decide) ?_
          refine xtop (y := nI (if (bd (sd S) d).testBit k = true then wrt (sP S) k else 0)) (by first | rw [if_pos c23] | rw [if_neg (by rw [c23]; decide)]) ?_
          first | refine xadd hx hb dX12_sureOf_35 ?_ | refine lv_iadd hx hb dX12_sureOf_35 ?_
          refine xistore_n hx hb dX12_sureOf_36 hl (by decide) rfl (fun ls hl => ?_)
          first | refine xiincN hx hb 1 dX12_sureOf_37 hl rfl (by decide) (by decide) rfl (fun ls hl => ?_) | refine xiinc hx hb dX12_sureOf_37 hl rfl rfl (by decide) rfl (fun ls hl => ?_)
          refine lv_goto (tgt := 4) hx hb dX12_sureOf_40 (by decide) ?_
          exact ih4 (k + 1) _ _ _ (by omega) (by omega) hw hS hl
        · skip
          refine xaload_n hx hb dX12_sureOf_26 hl rfl ?_
          refine xiload_n hx hb dX12_sureOf_27 hl rfl ?_
          refine xVi ⟨hx, hb, hml, hown, hts⟩ (kX12_worth l N0 G _ _ V A hM S hR hL k (by omega)) (cwV 1 hts gX12_sureOf_X12_worth rfl rfl rfl (by decide +kernel) ⟨Nat.le_of_ble_eq_true rfl, Nat.le_of_ble_eq_true rfl⟩) hG hN hw hS (ci := 12) (by repeat first | assumption | exact wu_eq _ _ _ | refine wu_ne (by omega) ?_) rfl rfl hl.1 rfl (Nat.le_of_ble_eq_true rfl) dX12_sureOf_28 ⟨Nat.le_of_ble_eq_true rfl, Nat.le_of_ble_eq_true rfl⟩ (fun r28 w28 H locs hp28 hw hS => ?_)
          obtain ⟨rfl, rfl⟩ := hp28
          refine lv_goto (tgt := 35) hx hb dX12_sureOf_31 (by decide) ?_
          refine xtop (y := nI (if (bd (sd S) d).testBit k = true then wrt (sP S) k else 0)) (by first | rw [if_pos c23] | rw [if_neg (by rw [c23]; decide)]) ?_
          first | refine xadd hx hb dX12_sureOf_35 ?_ | refine lv_iadd hx hb dX12_sureOf_35 ?_
          refine xistore_n hx hb dX12_sureOf_36 hl (by decide) rfl (fun ls hl => ?_)
          first | refine xiincN hx hb 1 dX12_sureOf_37 hl rfl (by decide) (by decide) rfl (fun ls hl => ?_) | refine xiinc hx hb dX12_sureOf_37 hl rfl rfl (by decide) rfl (fun ls hl => ?_)
          refine lv_goto (tgt := 4) hx hb dX12_sureOf_40 (by decide) ?_
          exact ih4 (k + 1) _ _ _ (by omega) (by omega) hw hS hl
  exact loop4 (sn S + 1) 0 _ _ _ (by omega) (by omega) hw hS hl
