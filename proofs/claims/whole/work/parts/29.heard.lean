theorem getD_in {α : Type} {l : List α} {k : Nat} {d : α} (h : k < l.length) : l.getD k d ∈ l := by
  rw [List.getD_eq_getElem?_getD, List.getElem?_eq_getElem h]
  exact List.getElem_mem h
theorem bI_nat (v : Bool) : bI v = nI v.toNat := by cases v <;> decide
theorem bitq {n : Nat} {v : Bool} (h : n < 2) : (n = v.toNat → (decide (n = 1) == v) = true) ∧ (n ≠ v.toNat → (decide (n = 1) == v) = false) := by
  rcases (show n = 0 ∨ n = 1 by omega) with rfl | rfl <;> cases v <;> decide
theorem okH_s {l : List (Nat × Bool)} {k b : Nat} (h : k < l.length) : okH (l.take (k + 1)) b = (okH (l.take k) b && (b.testBit (l.getD k (0, false)).1 == (l.getD k (0, false)).2)) := by
  unfold okH
  rw [List.take_succ_eq_append_getElem h, List.all_append, List.getD_eq_getElem?_getD, List.getElem?_eq_getElem h]
  simp
set_option maxHeartbeats 4000000 in
set_option maxRecDepth 100000 in
theorem kX12_isHeard (l : Launch) (N0 : Nat) (G : XG) (w : Wd) (M0 : Nat) (V : Nat → Value) (A : Nat → Nat → Int32) (hM : MW G w M0 V A) (S : QS) (hR : RM S V A) (hL : WB S) (b : Nat) (hb32 : b < 32) (hhd : ∀ q ∈ sh S, q.1 < sn S) : XM l yX12_isHeard wsX12_isHeard (rmD 1) N0 G [.ref M0, .int (nI b)] w vI (fun r w1 => bI (okH (sh S) b) = r ∧ w = w1) 0 0 := by
  refine XM.of (cc := cX12_isHeard) (maxL := 4) (ret := (some .boolean)) (by decide) rfl (Nat.le_of_ble_eq_true rfl) ?_
  intro p e s m below meth c hx hb hr hlk hin0 hml hown hts hN hw hG hS ls hl
  have hown : s.vm.findClass RX12 = some m.cls := hown
  have hiX12 : ∀ x ∈ u_ws RX12 TX12 37, x ∈ wsX12_isHeard := by decide +kernel
  have hlnk0 := hts (.fieldLink RX12 106 "LentQuillModel" "heard" "I") (by decide +kernel)
  have hlnk1 := hts (.fieldLink RX12 28 "LentQuillModel" "heardWho" "[I") (by decide +kernel)
  have hlnk2 := hts (.fieldLink RX12 31 "LentQuillModel" "heardBound" "[I") (by decide +kernel)
  have hl : lh ls 4 [some (.ref M0), some (.int (nI b)), none, none] := hl
  obtain ⟨hm0, ⟨hv3, hv4, hv5, hv6, hv8, hv9, hv11, hv12, hv15, hv18, hv19, hv20, hv24, hv30, hv31, hv32, hv33, hv34, hv35⟩, ha1, ha2, ha3, ha4, ha5, ha6, ha7, ha8, ha9, ha10, ha11, ha12, ha13, ha14, ha15, ha16, ha17, ha18, ha19⟩ := id hM
  obtain ⟨ht, hn, hlm, hdn, hhn, has, hpl, hkw, hRB, hpg, hkp⟩ := id hR
  obtain ⟨hn5, hl5, hkd, hsp, hd6, hdw, hh6, hg18, hgr, hIm⟩ := id hL
  refine lv_iconst (v := nI 1) hx hb dX12_isHeard_0 (by decide) ?_
  refine xistore_n hx hb dX12_isHeard_1 hl (by decide) rfl (fun ls hl => ?_)
  refine lv_iconst (v := nI 0) hx hb dX12_isHeard_2 (by decide) ?_
  refine xistore_n hx hb dX12_isHeard_3 hl (by decide) rfl (fun ls hl => ?_)
  have loop4 : ∀ (nf : Nat) (k : Nat) (on : Bool) (H : Heap) (locs : List Loc) (ls : Array Slot), (sh S).length - k < nf → (k ≤ (sh S).length) → (on = okH ((sh S).take k) b) → PW N0 G w H → va_S (fun q => N0 ≤ q) s.heap H locs → lh ls 4 [some (.ref M0), some (.int (nI b)), some (.int (bI on)), some (.int (nI k))] → W p l e (rmD 1) s m ([.ref M0, .int (nI b)] : List Value).toArray below meth c H locs 0 0 (MQ below (XQ N0 G vI (fun r w1 => bI (okH (sh S) b) = r ∧ w = w1)) ([.ref M0, .int (nI b)] : List Value).toArray s 0 0 (fun q => N0 ≤ q)) (F0 m 4 ls []) := by
    intro nf
    induction nf with
    | zero => intros; omega
    | succ nf ih4 =>
      intro k on H locs ls hnf hk hon hw hS hl
      refine xiload_n hx hb dX12_isHeard_4 hl rfl ?_
      refine xaload_n hx hb dX12_isHeard_5 hl rfl ?_
      refine xgetM hx hb hts hiX12 hown hG hw (by repeat first | assumption | exact wu_eq _ _ _ | refine wu_ne (by omega) ?_) 10 (by decide) hlnk0 (by repeat first | assumption | exact vu_eq _ _ _ | refine vu_ne (by decide) ?_) dX12_isHeard_6 ?_
      first | refine xcmp_ge (tgt := 47) hx hb dX12_isHeard_9 (by decide) (by omega) (by omega) (fun c9 => ?_) (fun c9 => ?_) | refine lv_icmp_ge (tgt := 47) hx hb dX12_isHeard_9 (by decide) (fun c9 => ?_) (fun c9 => ?_)
      · skip
        refine xiload_n hx hb dX12_isHeard_47 hl rfl ?_
        exact xzret hx hb hr hlk hw hS dX12_isHeard_48 on rfl ⟨by rw [hon, List.take_of_length_le (by omega)], rfl⟩
      · skip
        obtain ⟨q, hq⟩ : ∃ q, (sh S).getD k (0, false) = q := ⟨_, rfl⟩
        have h7 : A 7 k = nI q.1 := by rw [← hq]; exact (hRB.2.2 k (by show k < (sh S).length; omega)).1
        have h8 : A 8 k = bI q.2 := by rw [← hq]; exact (hRB.2.2 k (by show k < (sh S).length; omega)).2
        have hq5 : q.1 < sn S := hhd q (by rw [← hq]; exact getD_in (by omega))
        have hmm := Nat.mod_lt (b / 2 ^ q.1) (show 0 < 2 by omega)
        have hb1 : q.2.toNat ≤ 1 := by cases q.2 <;> decide
        have hbq := bitq (v := q.2) hmm
        refine xiload_n hx hb dX12_isHeard_12 hl rfl ?_
        first | refine xifb_eq (tgt := 39) hx hb dX12_isHeard_13 (by decide) (fun c13 => ?_) (fun c13 => ?_) | refine xif_eq (tgt := 39) hx hb dX12_isHeard_13 (by decide) (by omega) (fun c13 => ?_) (fun c13 => ?_) | refine lv_if_eq (tgt := 39) hx hb dX12_isHeard_13 (by decide) (fun c13 => ?_) (fun c13 => ?_)
        · skip
          refine lv_iconst (v := nI 0) hx hb dX12_isHeard_39 (by decide) ?_
          refine xtop (y := bI (okH ((sh S).take (k + 1)) b)) (by rw [okH_s (by omega), hq, ← hon, testBit_dm]; first | (rw [c13]; rfl) | (rw [c13, Bool.true_and, hbq.1 c32]; rfl) | (rw [c13, Bool.true_and, hbq.2 c32]; rfl)) ?_
          refine xistore_n hx hb dX12_isHeard_40 hl (by decide) rfl (fun ls hl => ?_)
          first | refine xiincN hx hb 1 dX12_isHeard_41 hl rfl (by decide) (by decide) rfl (fun ls hl => ?_) | refine xiinc hx hb dX12_isHeard_41 hl rfl rfl (by decide) rfl (fun ls hl => ?_)
          refine lv_goto (tgt := 4) hx hb dX12_isHeard_44 (by decide) ?_
          exact ih4 (k + 1) _ _ _ _ (by omega) (by omega) rfl hw hS hl
        · skip
          refine xiload_n hx hb dX12_isHeard_16 hl rfl ?_
          refine xaload_n hx hb dX12_isHeard_17 hl rfl ?_
          refine xgetM hx hb hts hiX12 hown hG hw (by repeat first | assumption | exact wu_eq _ _ _ | refine wu_ne (by omega) ?_) 11 (by decide) hlnk1 (by repeat first | assumption | exact vu_eq _ _ _ | refine vu_ne (by decide) ?_) dX12_isHeard_18 ?_
          refine xiload_n hx hb dX12_isHeard_21 hl rfl ?_
          refine xiald hx hb hG hw (by repeat first | assumption | exact wu_eq _ _ _ | refine wu_ne (by omega) ?_) (by omega) (by omega) dX12_isHeard_22 ?_
          refine xtop h7 ?_
          first | refine xshr hx hb dX12_isHeard_23 (by omega) (by omega) ?_ | refine lv_ishr hx hb dX12_isHeard_23 ?_
          refine lv_iconst (v := nI 1) hx hb dX12_isHeard_24 (by decide) ?_
          refine xand1 hx hb dX12_isHeard_25 ?_
          refine xaload_n hx hb dX12_isHeard_26 hl rfl ?_
          refine xgetM hx hb hts hiX12 hown hG hw (by repeat first | assumption | exact wu_eq _ _ _ | refine wu_ne (by omega) ?_) 12 (by decide) hlnk2 (by repeat first | assumption | exact vu_eq _ _ _ | refine vu_ne (by decide) ?_) dX12_isHeard_27 ?_
          refine xiload_n hx hb dX12_isHeard_30 hl rfl ?_
          refine xiald hx hb hG hw (by repeat first | assumption | exact wu_eq _ _ _ | refine wu_ne (by omega) ?_) (by omega) (by omega) dX12_isHeard_31 ?_
          refine xtop (h8.trans (bI_nat q.2)) ?_
          first | refine xcmp_ne (tgt := 39) hx hb dX12_isHeard_32 (by decide) (by omega) (by omega) (fun c32 => ?_) (fun c32 => ?_) | refine lv_icmp_ne (tgt := 39) hx hb dX12_isHeard_32 (by decide) (fun c32 => ?_) (fun c32 => ?_)
          · skip
            refine lv_iconst (v := nI 0) hx hb dX12_isHeard_39 (by decide) ?_
            refine xtop (y := bI (okH ((sh S).take (k + 1)) b)) (by rw [okH_s (by omega), hq, ← hon, testBit_dm]; first | (rw [c13]; rfl) | (rw [c13, Bool.true_and, hbq.1 c32]; rfl) | (rw [c13, Bool.true_and, hbq.2 c32]; rfl)) ?_
            refine xistore_n hx hb dX12_isHeard_40 hl (by decide) rfl (fun ls hl => ?_)
            first | refine xiincN hx hb 1 dX12_isHeard_41 hl rfl (by decide) (by decide) rfl (fun ls hl => ?_) | refine xiinc hx hb dX12_isHeard_41 hl rfl rfl (by decide) rfl (fun ls hl => ?_)
            refine lv_goto (tgt := 4) hx hb dX12_isHeard_44 (by decide) ?_
            exact ih4 (k + 1) _ _ _ _ (by omega) (by omega) rfl hw hS hl
          · skip
            refine lv_iconst (v := nI 1) hx hb dX12_isHeard_35 (by decide) ?_
            refine lv_goto (tgt := 40) hx hb dX12_isHeard_36 (by decide) ?_
            refine xtop (y := bI (okH ((sh S).take (k + 1)) b)) (by rw [okH_s (by omega), hq, ← hon, testBit_dm]; first | (rw [c13]; rfl) | (rw [c13, Bool.true_and, hbq.1 c32]; rfl) | (rw [c13, Bool.true_and, hbq.2 c32]; rfl)) ?_
            refine xistore_n hx hb dX12_isHeard_40 hl (by decide) rfl (fun ls hl => ?_)
            first | refine xiincN hx hb 1 dX12_isHeard_41 hl rfl (by decide) (by decide) rfl (fun ls hl => ?_) | refine xiinc hx hb dX12_isHeard_41 hl rfl rfl (by decide) rfl (fun ls hl => ?_)
            refine lv_goto (tgt := 4) hx hb dX12_isHeard_44 (by decide) ?_
            exact ih4 (k + 1) _ _ _ _ (by omega) (by omega) rfl hw hS hl
  exact loop4 ((sh S).length + 1) 0 true _ _ _ (by omega) (by omega) rfl hw hS hl
