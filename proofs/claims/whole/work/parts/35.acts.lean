theorem had_v {hand : Nat → Int32} {h : List Nat} {i q k : Nat} (hha : ∀ k, k < h.length → hand (41 * i + k) = nI (h.getD (h.length - 1 - k) 0)) (e : q = 41 * i + (h.length - 1 - k)) (hk : k < h.length) : hand q = nI (h.getD k 0) := by
  rw [e, hha _ (by omega), show h.length - 1 - (h.length - 1 - k) = k by omega]
def TW (A : Nat → Nat → Int32) (P : PK) (j : Nat) : Prop := A 1 j = nI (kd P j) ∧ A 2 j = nI (wo P j) ∧ A 3 (41 * j) = nI j ∧ A 4 j = nI 0
theorem tw_step {A : Nat → Nat → Int32} {P : PK} {p k v : Nat} (h : ∀ j, j < p → TW A P j) (hk : kd P p = k) (hv : wo P p = v) : ∀ j, j < p + 1 → TW (va_up (va_up (va_up (va_up A 1 (upd (A 1) p (nI k))) 2 (upd (A 2) p (nI v))) 3 (upd (A 3) (41 * p) (nI p))) 4 (upd (A 4) p (nI 0))) P j := by
  intro j hj
  unfold TW
  rw [vup_ne _ _ (by omega : (1 : Nat) ≠ 4), vup_ne _ _ (by omega : (1 : Nat) ≠ 3), vup_ne _ _ (by omega : (1 : Nat) ≠ 2), vup_eq, vup_ne _ _ (by omega : (2 : Nat) ≠ 4), vup_ne _ _ (by omega : (2 : Nat) ≠ 3), vup_eq, vup_ne _ _ (by omega : (3 : Nat) ≠ 4), vup_eq, vup_eq]
  by_cases q : j = p
  · subst q
    rw [upd_at, upd_at, upd_at, upd_at, hk, hv]
    exact ⟨rfl, rfl, rfl, rfl⟩
  · rw [upd_no q, upd_no q, upd_no (by omega), upd_no q]
    exact h j (by omega)
theorem rm_town {S : QS} {V V5 : Nat → Value} {A A5 : Nat → Nat → Int32} (hR : RM S V A) (h0 : V5 0 = .int (nI (sT S + 1))) (h1 : V5 1 = .int (nI ((sg S).length / 3))) (h2 : V5 2 = .int (nI (tL (sg S)))) (h7 : V5 7 = .int (nI 0)) (h10 : V5 10 = .int (nI 0)) (h14 : V5 14 = .int (nI 0)) (h13 : V5 13 = V 13) (h26 : V5 26 = V 26) (h27 : V5 27 = V 27) (hT : ∀ j, j < (sg S).length / 3 → TW A5 (tP (sg S)) j) : RM ([], tP (sg S), tL (sg S), ((fun i => [i]), [], []), none, sT S + 1, sA S) V5 A5 := by
  obtain ⟨ht, hn, hlm, hdn, hhn, has, hpl, hkw, hRB, hpg, b, kt, i26, i27, hkt, hk1, hk2⟩ := hR
  have hl := tP_len (sg S)
  refine ⟨h0, h1.trans (by rw [← hl]; rfl), h2, h7, h10, h13.trans has, h14, fun i hi => ?_, ⟨fun i hi => ?_, fun d hd => absurd hd (Nat.not_lt_zero d), fun d hd => absurd hd (Nat.not_lt_zero d)⟩, fun i hi => absurd hi (Nat.not_lt_zero i), b, kt, h26.trans i26, h27.trans i27, Nat.le_succ_of_le hkt, fun _ e => ?_, fun B hB => by cases hB⟩
  · have hi : i < (tP (sg S)).length := hi
    have := hT i (by omega)
    exact ⟨this.1, this.2.1⟩
  · have hi : i < (tP (sg S)).length := hi
    have h9 := hT i (by omega)
    refine ⟨h9.2.2.2, fun k hk => ?_⟩
    have hk : k < 1 := hk
    have : k = 0 := by omega
    subst this
    exact h9.2.2.1
  · have e : kt = sT S + 1 := e
    omega
theorem rm_lend {S : QS} {V : Nat → Value} {A : Nat → Nat → Int32} {i k : Nat} (hR : RM S V A) (hL : WB S) (hi : i < sn S) (h40 : (sp S i).length ≤ 40) : RM (lendS S i k) V (va_up (va_up A 4 (upd (A 4) i (nI (sp S i).length))) 3 (upd (A 3) (41 * i + (sp S i).length) (nI k))) := by
  obtain ⟨ht, hn, hlm, hdn, hhn, has, hpl, hkw, hRB, hpg, b, kt, i26, i27, hkt, hk1, hk2⟩ := hR
  refine ⟨ht, hn, hlm, hdn, hhn, has, hpl, hkw, ⟨fun j hj => ?_, hRB.2⟩, hpg, b, kt, i26, i27, hkt, hk1, hk2⟩
  have hj : j < sn S := hj
  show va_up (va_up A 4 _) 3 _ 4 j = nI ((va_up (sB S).1 i (k :: sp S i) j).length - 1) ∧ ∀ q, q < (va_up (sB S).1 i (k :: sp S i) j).length → va_up (va_up A 4 _) 3 _ 3 (41 * j + q) = nI ((va_up (sB S).1 i (k :: sp S i) j).getD ((va_up (sB S).1 i (k :: sp S i) j).length - 1 - q) 0)
  rw [vup_ne _ _ (by omega : (4 : Nat) ≠ 3), vup_eq, vup_eq]
  by_cases e : j = i
  · subst e
    rw [vup_eq, upd_at]
    refine ⟨by simp, fun q hq => ?_⟩
    rw [List.length_cons] at hq ⊢
    by_cases e2 : q = (sp S j).length
    · rw [e2, upd_at, show (sp S j).length + 1 - 1 - (sp S j).length = 0 by omega]; rfl
    · rw [upd_no (by omega)]
      have h9 : A 3 (41 * j + q) = nI ((sp S j).getD ((sp S j).length - 1 - q) 0) := (hRB.1 j hj).2 q (by show q < (sp S j).length; omega)
      rw [h9, show (sp S j).length + 1 - 1 - q = (sp S j).length - 1 - q + 1 by omega, List.getD_cons_succ]
  · rw [vup_ne _ _ e, upd_no e]
    refine ⟨(hRB.1 j hj).1, fun q hq => ?_⟩
    have h41 := (hL.2.2.2.1 j hj).2
    have hq2 : q < (sp S j).length := hq
    rw [upd_no (by omega)]
    exact (hRB.1 j hj).2 q hq
theorem wb_lend {S : QS} {i k : Nat} (hL : WB S) (h40 : (sp S i).length ≤ 40) : WB (lendS S i k) := by
  obtain ⟨hn5, hl5, hkd, hsp, hd6, hdw, hh6, hg18, hgr, hIm⟩ := hL
  refine ⟨hn5, hl5, hkd, fun j hj => ?_, hd6, hdw, hh6, hg18, hgr, hIm⟩
  show 1 ≤ (va_up (sB S).1 i (k :: sp S i) j).length ∧ (va_up (sB S).1 i (k :: sp S i) j).length ≤ 41
  by_cases e : j = i
  · rw [e, vup_eq, List.length_cons]; omega
  · rw [vup_ne _ _ e]; exact hsp j hj
set_option maxHeartbeats 4000000 in
set_option maxRecDepth 100000 in
theorem kX12_town (l : Launch) (N0 : Nat) (G : XG) (w : Wd) (M0 : Nat) (V : Nat → Value) (A : Nat → Nat → Int32) (hM : MW G w M0 V A) (S : QS) (hR : RM S V A) (hL : WB S) : XM l yX12_town wsX12_town (rmD 4) N0 G [.ref M0] w vI (fun r w1 => (o_town S).1 = r ∧ (∃ V1 A1, MW G w1 M0 V1 A1 ∧ RM ((o_town S).2) V1 A1) ∧ Out w w1 M0 (M0 + 20)) 0 0 := by
  refine XM.of (cc := cX12_town) (maxL := 3) (ret := (some .int)) (by decide) rfl (Nat.le_of_ble_eq_true rfl) ?_
  intro p e s m below meth c hx hb hr hlk hin0 hml hown hts hN hw hG hS ls hl
  have hown : s.vm.findClass RX12 = some m.cls := hown
  have hiX12 : ∀ x ∈ u_ws RX12 TX12 37, x ∈ wsX12_town := by decide +kernel
  have hlnk0 := hts (.fieldLink RX12 76 "LentQuillModel" "isWhole" "Z") (by decide +kernel)
  have hlnk1 := hts (.fieldLink RX12 80 "LentQuillModel" "newMany" "I") (by decide +kernel)
  have hlnk2 := hts (.fieldLink RX12 94 "LentQuillModel" "people" "I") (by decide +kernel)
  have hlnk3 := hts (.fieldLink RX12 34 "LentQuillModel" "page" "[B") (by decide +kernel)
  have hlnk4 := hts (.fieldLink RX12 97 "LentQuillModel" "limit" "I") (by decide +kernel)
  have hlnk5 := hts (.fieldLink RX12 100 "LentQuillModel" "towns" "I") (by decide +kernel)
  have hlnk6 := hts (.fieldLink RX12 103 "LentQuillModel" "deeds" "I") (by decide +kernel)
  have hlnk7 := hts (.fieldLink RX12 106 "LentQuillModel" "heard" "I") (by decide +kernel)
  have hlnk8 := hts (.fieldLink RX12 72 "LentQuillModel" "pageLength" "I") (by decide +kernel)
  have hlnk9 := hts (.fieldLink RX12 7 "LentQuillModel" "kindOf" "[I") (by decide +kernel)
  have hlnk10 := hts (.fieldLink RX12 13 "LentQuillModel" "worthOf" "[I") (by decide +kernel)
  have hlnk11 := hts (.fieldLink RX12 16 "LentQuillModel" "handOf" "[I") (by decide +kernel)
  have hlnk12 := hts (.fieldLink RX12 19 "LentQuillModel" "lentOf" "[I") (by decide +kernel)
  have hl : lh ls 3 [some (.ref M0), none, none] := hl
  obtain ⟨hm0, ⟨hv3, hv4, hv5, hv6, hv8, hv9, hv11, hv12, hv15, hv18, hv19, hv20, hv24, hv30, hv31, hv32, hv33, hv34, hv35⟩, ha1, ha2, ha3, ha4, ha5, ha6, ha7, ha8, ha9, ha10, ha11, ha12, ha13, ha14, ha15, ha16, ha17, ha18, ha19⟩ := id hM
  obtain ⟨ht, hn, hlm, hdn, hhn, has, hpl, hkw, hRB, hpg, hkp⟩ := id hR
  obtain ⟨hn5, hl5, hkd, hsp, hd6, hdw, hh6, hg18, hgr, hIm⟩ := id hL
  refine xaload_n hx hb dX12_town_0 hl rfl ?_
  refine xVi ⟨hx, hb, hml, hown, hts⟩ (kX12_read l N0 G _ _ V A hM S hR hL) (cwV 0 hts gX12_town_X12_read rfl rfl rfl (by decide +kernel) ⟨Nat.le_of_ble_eq_true rfl, Nat.le_of_ble_eq_true rfl⟩) hG hN hw hS (ci := 12) (by repeat first | assumption | exact wu_eq _ _ _ | refine wu_ne (by omega) ?_) rfl rfl hl.1 rfl (Nat.le_of_ble_eq_true rfl) dX12_town_1 ⟨Nat.le_of_ble_eq_true rfl, Nat.le_of_ble_eq_true rfl⟩ (fun r1 w1 H locs hp1 hw hS => ?_)
  obtain ⟨rfl, V1, hV1, h16, h17, hM1, hO1⟩ := hp1
  obtain ⟨hm0z, ⟨hv3z, hv4z, hv5z, hv6z, hv8z, hv9z, hv11z, hv12z, hv15z, hv18z, hv19z, hv20z, hv24z, hv30z, hv31z, hv32z, hv33z, hv34z, hv35z⟩, ha1z, ha2z, ha3z, ha4z, ha5z, ha6z, ha7z, ha8z, ha9z, ha10z, ha11z, ha12z, ha13z, ha14z, ha15z, ha16z, ha17z, ha18z, ha19z⟩ := id hM1
  refine xistore_n hx hb dX12_town_4 hl (by decide) rfl (fun ls hl => ?_)
  refine xaload_n hx hb dX12_town_5 hl rfl ?_
  refine xgetM hx hb hts hiX12 hown hG hw (by repeat first | assumption | exact wu_eq _ _ _ | refine wu_ne (by omega) ?_) 16 (by decide) hlnk0 (by repeat first | assumption | exact vu_eq _ _ _ | refine vu_ne (by decide) ?_) dX12_town_6 ?_
  first | refine xifb_ne (tgt := 15) hx hb dX12_town_9 (by decide) (fun c9 => ?_) (fun c9 => ?_) | refine xif_ne (tgt := 15) hx hb dX12_town_9 (by decide) (by omega) (fun c9 => ?_) (fun c9 => ?_) | refine lv_if_ne (tgt := 15) hx hb dX12_town_9 (by decide) (fun c9 => ?_) (fun c9 => ?_)
  · skip
    obtain ⟨hm3, hn2, hn5b, hpp, hl49, hl53⟩ := isT_spec c9 hg18
    have h17 := h17 c9
    have hff : ff (sg S) (sg S).length 0 = (sg S).length := (of_decide_eq_true c9).2.2
    rw [hff] at hl
    refine xaload_n hx hb dX12_town_15 hl rfl ?_
    refine xaload_n hx hb dX12_town_16 hl rfl ?_
    refine xgetM hx hb hts hiX12 hown hG hw (by repeat first | assumption | exact wu_eq _ _ _ | refine wu_ne (by omega) ?_) 17 (by decide) hlnk1 (by repeat first | assumption | exact vu_eq _ _ _ | refine vu_ne (by decide) ?_) dX12_town_17 ?_
    refine xputM (ty := .int) hx hb hts hiX12 hown hG hw hS (by repeat first | assumption | exact wu_eq _ _ _ | refine wu_ne (by omega) ?_) 1 (by decide) hlnk2 rfl (by decide +kernel) rfl rfl dX12_town_20 (fun H locs hzz hw hS => ?_)
    refine xaload_n hx hb dX12_town_23 hl rfl ?_
    refine xaload_n hx hb dX12_town_24 hl rfl ?_
    refine xgetM hx hb hts hiX12 hown hG hw (by repeat first | assumption | exact wu_eq _ _ _ | refine wu_ne (by omega) ?_) 15 (by decide) hlnk3 (by repeat first | assumption | exact vu_eq _ _ _ | refine vu_ne (by decide) ?_) dX12_town_25 ?_
    refine xiload_n hx hb dX12_town_28 hl rfl ?_
    refine lv_iconst (v := nI 1) hx hb dX12_town_29 (by decide) ?_
    first | refine xsub hx hb dX12_town_30 (by omega) ?_ | refine lv_isub hx hb dX12_town_30 ?_
    refine xbald hx hb hG hw (by repeat first | assumption | exact wu_eq _ _ _ | refine wu_ne (by omega) ?_) (by omega) (by omega) dX12_town_31 ?_
    refine xtop (hpg ((sg S).length - 1) (by omega)) ?_
    refine lv_bipush (v := nI 48) hx hb dX12_town_32 (by decide) ?_
    first | refine xsub hx hb dX12_town_34 (by omega) ?_ | refine lv_isub hx hb dX12_town_34 ?_
    refine xputM (ty := .int) hx hb hts hiX12 hown hG hw hS (by repeat first | assumption | exact wu_eq _ _ _ | refine wu_ne (by omega) ?_) 2 (by decide) hlnk4 rfl (by decide +kernel) rfl rfl dX12_town_35 (fun H locs hzz hw hS => ?_)
    obtain ⟨V3, hV3e⟩ : ∃ V3, V3 = vu (vu V1 1 (.int (nI ((sg S).length / 3)))) 2 (.int (nI (pgc (sg S) ((sg S).length - 1) - 48))) := ⟨_, rfl⟩
    have hM3 := (hM1.put (k := 1) (.int (nI ((sg S).length / 3))) (by decide)).put (k := 2) (.int (nI (pgc (sg S) ((sg S).length - 1) - 48))) (by decide)
    rw [← hV3e] at hM3 hw
    have h31 : V3 1 = .int (nI ((sg S).length / 3)) := by rw [hV3e]; exact vu_ne (by decide) (vu_eq _ _ _)
    have h32 : V3 2 = .int (nI (tL (sg S))) := by rw [hV3e]; exact vu_eq _ _ _
    have hV3o : ∀ k, k ≠ 1 → k ≠ 2 → k ≠ 16 → k ≠ 17 → V3 k = V k := fun k a b c d => by rw [hV3e]; exact vu_ne b (vu_ne a (hV1 k c d))
    have h30 : V3 0 = .int (nI (sT S)) := (hV3o 0 (by decide) (by decide) (by decide) (by decide)).trans ht
    refine lv_iconst (v := nI 0) hx hb dX12_town_38 (by decide) ?_
    refine xistore_n hx hb dX12_town_39 hl (by decide) rfl (fun ls hl => ?_)
    have loop40 : ∀ (nf : Nat) (p1 : Nat) (A4 : Nat → Nat → Int32) (w4 : Wd) (H : Heap) (locs : List Loc) (ls : Array Slot), (sg S).length / 3 - p1 < nf → (p1 ≤ (sg S).length / 3) → (∀ k, 5 ≤ k → A4 k = A k) → (MW G w4 M0 V3 A4) → (∀ j, j < p1 → TW A4 (tP (sg S)) j) → (Out w w4 M0 (M0 + 20)) → PW N0 G w4 H → va_S (fun q => N0 ≤ q) s.heap H locs → lh ls 3 [some (.ref M0), some (.int (nI (sg S).length)), some (.int (nI p1))] → W p l e (rmD 4) s m ([.ref M0] : List Value).toArray below meth c H locs 0 0 (MQ below (XQ N0 G vI (fun r w1 => (o_town S).1 = r ∧ (∃ V1 A1, MW G w1 M0 V1 A1 ∧ RM ((o_town S).2) V1 A1) ∧ Out w w1 M0 (M0 + 20))) ([.ref M0] : List Value).toArray s 0 0 (fun q => N0 ≤ q)) (F0 m 40 ls []) := by
      intro nf
      induction nf with
      | zero => intros; omega
      | succ nf ih40 =>
        intro p1 A4 w4 H locs ls hnf hp hA4 hM4 h1 hO4 hw hS hl
        obtain ⟨hm0y, ⟨hv3y, hv4y, hv5y, hv6y, hv8y, hv9y, hv11y, hv12y, hv15y, hv18y, hv19y, hv20y, hv24y, hv30y, hv31y, hv32y, hv33y, hv34y, hv35y⟩, ha1y, ha2y, ha3y, ha4y, ha5y, ha6y, ha7y, ha8y, ha9y, ha10y, ha11y, ha12y, ha13y, ha14y, ha15y, ha16y, ha17y, ha18y, ha19y⟩ := id hM4
        refine xiload_n hx hb dX12_town_40 hl rfl ?_
        refine xaload_n hx hb dX12_town_41 hl rfl ?_
        refine xgetM hx hb hts hiX12 hown hG hw (by repeat first | assumption | exact wu_eq _ _ _ | refine wu_ne (by omega) ?_) 1 (by decide) hlnk2 (by repeat first | assumption | exact vu_eq _ _ _ | refine vu_ne (by decide) ?_) dX12_town_42 ?_
        first | refine xcmp_ge (tgt := 107) hx hb dX12_town_45 (by decide) (by omega) (by omega) (fun c45 => ?_) (fun c45 => ?_) | refine lv_icmp_ge (tgt := 107) hx hb dX12_town_45 (by decide) (fun c45 => ?_) (fun c45 => ?_)
        · skip
          refine xaload_n hx hb dX12_town_107 hl rfl ?_
          refine lv_dup hx hb dX12_town_108 rfl ?_
          refine xgetM hx hb hts hiX12 hown hG hw (by repeat first | assumption | exact wu_eq _ _ _ | refine wu_ne (by omega) ?_) 0 (by decide) hlnk5 (by repeat first | assumption | exact vu_eq _ _ _ | refine vu_ne (by decide) ?_) dX12_town_109 ?_
          refine lv_iconst (v := nI 1) hx hb dX12_town_112 (by decide) ?_
          first | refine xadd hx hb dX12_town_113 ?_ | refine lv_iadd hx hb dX12_town_113 ?_
          refine xputM (ty := .int) hx hb hts hiX12 hown hG hw hS (by repeat first | assumption | exact wu_eq _ _ _ | refine wu_ne (by omega) ?_) 0 (by decide) hlnk5 rfl (by decide +kernel) rfl rfl dX12_town_114 (fun H locs hzz hw hS => ?_)
          refine xaload_n hx hb dX12_town_117 hl rfl ?_
          refine lv_iconst (v := nI 0) hx hb dX12_town_118 (by decide) ?_
          refine xputM (ty := .int) hx hb hts hiX12 hown hG hw hS (by repeat first | assumption | exact wu_eq _ _ _ | refine wu_ne (by omega) ?_) 7 (by decide) hlnk6 rfl (by decide +kernel) rfl rfl dX12_town_119 (fun H locs hzz hw hS => ?_)
          refine xaload_n hx hb dX12_town_122 hl rfl ?_
          refine lv_iconst (v := nI 0) hx hb dX12_town_123 (by decide) ?_
          refine xputM (ty := .int) hx hb hts hiX12 hown hG hw hS (by repeat first | assumption | exact wu_eq _ _ _ | refine wu_ne (by omega) ?_) 10 (by decide) hlnk7 rfl (by decide +kernel) rfl rfl dX12_town_124 (fun H locs hzz hw hS => ?_)
          refine xaload_n hx hb dX12_town_127 hl rfl ?_
          refine lv_iconst (v := nI 0) hx hb dX12_town_128 (by decide) ?_
          refine xputM (ty := .int) hx hb hts hiX12 hown hG hw hS (by repeat first | assumption | exact wu_eq _ _ _ | refine wu_ne (by omega) ?_) 14 (by decide) hlnk8 rfl (by decide +kernel) rfl rfl dX12_town_129 (fun H locs hzz hw hS => ?_)
          refine xaload_n hx hb dX12_town_132 hl rfl ?_
          refine xgetM hx hb hts hiX12 hown hG hw (by repeat first | assumption | exact wu_eq _ _ _ | refine wu_ne (by omega) ?_) 1 (by decide) hlnk2 (by repeat first | assumption | exact vu_eq _ _ _ | refine vu_ne (by decide) ?_) dX12_town_133 ?_
          exact xiret hx hb hr hlk hw hS dX12_town_136 ⟨by rw [town_y c9], ⟨_, _, (((hM4.put (k := 0) (.int (nI (sT S + 1))) (by decide)).put (k := 7) (.int (nI 0)) (by decide)).put (k := 10) (.int (nI 0)) (by decide)).put (k := 14) (.int (nI 0)) (by decide), by rw [town_y c9]; exact rm_town hR (by repeat first | assumption | exact vu_eq _ _ _ | refine vu_ne (by decide) ?_) (by repeat first | assumption | exact vu_eq _ _ _ | refine vu_ne (by decide) ?_) (by repeat first | assumption | exact vu_eq _ _ _ | refine vu_ne (by decide) ?_) (by repeat first | assumption | exact vu_eq _ _ _ | refine vu_ne (by decide) ?_) (by repeat first | assumption | exact vu_eq _ _ _ | refine vu_ne (by decide) ?_) (by repeat first | assumption | exact vu_eq _ _ _ | refine vu_ne (by decide) ?_) (by repeat first | exact (hV3o 13 (by decide) (by decide) (by decide) (by decide)) | refine vu_ne (by decide) ?_) (by repeat first | exact (hV3o 26 (by decide) (by decide) (by decide) (by decide)) | refine vu_ne (by decide) ?_) (by repeat first | exact (hV3o 27 (by decide) (by decide) (by decide) (by decide)) | refine vu_ne (by decide) ?_) (fun j hj => h1 j (by omega))⟩, (((hO4.wu (by omega) (by omega)).wu (by omega) (by omega)).wu (by omega) (by omega)).wu (by omega) (by omega)⟩
        · skip
          refine xaload_n hx hb dX12_town_48 hl rfl ?_
          refine xgetM hx hb hts hiX12 hown hG hw (by repeat first | assumption | exact wu_eq _ _ _ | refine wu_ne (by omega) ?_) 3 (by decide) hlnk9 (by repeat first | assumption | exact vu_eq _ _ _ | refine vu_ne (by decide) ?_) dX12_town_49 ?_
          refine xiload_n hx hb dX12_town_52 hl rfl ?_
          refine xaload_n hx hb dX12_town_53 hl rfl ?_
          refine xgetM hx hb hts hiX12 hown hG hw (by repeat first | assumption | exact wu_eq _ _ _ | refine wu_ne (by omega) ?_) 15 (by decide) hlnk3 (by repeat first | assumption | exact vu_eq _ _ _ | refine vu_ne (by decide) ?_) dX12_town_54 ?_
          refine lv_iconst (v := nI 3) hx hb dX12_town_57 (by decide) ?_
          refine xiload_n hx hb dX12_town_58 hl rfl ?_
          first | refine xmul hx hb dX12_town_59 ?_ | refine lv_imul hx hb dX12_town_59 ?_
          refine xbald hx hb hG hw (by repeat first | assumption | exact wu_eq _ _ _ | refine wu_ne (by omega) ?_) (by omega) (by omega) dX12_town_60 ?_
          have hgk := hgr (3 * p1) (by omega)
          obtain ⟨k, hkk, hk4, hw48, hw57⟩ := hpp p1 (by omega)
          refine xtop ((congrFun (hA4 9 (by omega)) _).trans (hpg (3 * p1) (by omega))) ?_
          refine xSi ⟨hx, hb, hml, hown, hts⟩ (kX12_kindBy l N0 G _ _ (by omega)) (va_cwS 1 hts gX12_town_X12_kindBy rfl rfl rfl (by decide +kernel) ⟨Nat.le_of_ble_eq_true rfl, Nat.le_of_ble_eq_true rfl⟩) hG hN hw hS rfl hl.1 rfl (Nat.le_of_ble_eq_true rfl) dX12_town_61 ⟨Nat.le_of_ble_eq_true rfl, Nat.le_of_ble_eq_true rfl⟩ (fun r61 w61 H locs hp61 hw hS => ?_)
          obtain ⟨rfl, rfl⟩ := hp61
          refine xtop (y := nI k) (by rw [hkk]; rfl) ?_
          refine xiast hx hb hG hw hS (by repeat first | assumption | exact wu_eq _ _ _ | refine wu_ne (by omega) ?_) (by omega) (by omega) dX12_town_64 (fun H locs hzz hw hS => ?_)
          refine xaload_n hx hb dX12_town_65 hl rfl ?_
          refine xgetM hx hb hts hiX12 hown hG hw (by repeat first | assumption | exact wu_eq _ _ _ | refine wu_ne (by omega) ?_) 4 (by decide) hlnk10 (by repeat first | assumption | exact vu_eq _ _ _ | refine vu_ne (by decide) ?_) dX12_town_66 ?_
          refine xiload_n hx hb dX12_town_69 hl rfl ?_
          refine xaload_n hx hb dX12_town_70 hl rfl ?_
          refine xgetM hx hb hts hiX12 hown hG hw (by repeat first | assumption | exact wu_eq _ _ _ | refine wu_ne (by omega) ?_) 15 (by decide) hlnk3 (by repeat first | assumption | exact vu_eq _ _ _ | refine vu_ne (by decide) ?_) dX12_town_71 ?_
          refine lv_iconst (v := nI 3) hx hb dX12_town_74 (by decide) ?_
          refine xiload_n hx hb dX12_town_75 hl rfl ?_
          first | refine xmul hx hb dX12_town_76 ?_ | refine lv_imul hx hb dX12_town_76 ?_
          refine lv_iconst (v := nI 1) hx hb dX12_town_77 (by decide) ?_
          first | refine xadd hx hb dX12_town_78 ?_ | refine lv_iadd hx hb dX12_town_78 ?_
          refine xbald hx hb hG hw (by repeat first | assumption | exact wu_eq _ _ _ | refine wu_ne (by omega) ?_) (by omega) (by omega) dX12_town_79 ?_
          refine xtop ((congrFun (hA4 9 (by omega)) _).trans (hpg (3 * p1 + 1) (by omega))) ?_
          refine lv_bipush (v := nI 48) hx hb dX12_town_80 (by decide) ?_
          first | refine xsub hx hb dX12_town_82 (by omega) ?_ | refine lv_isub hx hb dX12_town_82 ?_
          refine xiast hx hb hG hw hS (by repeat first | assumption | exact wu_eq _ _ _ | refine wu_ne (by omega) ?_) (by omega) (by omega) dX12_town_83 (fun H locs hzz hw hS => ?_)
          refine xaload_n hx hb dX12_town_84 hl rfl ?_
          refine xgetM hx hb hts hiX12 hown hG hw (by repeat first | assumption | exact wu_eq _ _ _ | refine wu_ne (by omega) ?_) 5 (by decide) hlnk11 (by repeat first | assumption | exact vu_eq _ _ _ | refine vu_ne (by decide) ?_) dX12_town_85 ?_
          refine lv_bipush (v := nI 41) hx hb dX12_town_88 (by decide) ?_
          refine xiload_n hx hb dX12_town_90 hl rfl ?_
          first | refine xmul hx hb dX12_town_91 ?_ | refine lv_imul hx hb dX12_town_91 ?_
          refine xiload_n hx hb dX12_town_92 hl rfl ?_
          refine xiast hx hb hG hw hS (by repeat first | assumption | exact wu_eq _ _ _ | refine wu_ne (by omega) ?_) (by omega) (by omega) dX12_town_93 (fun H locs hzz hw hS => ?_)
          refine xaload_n hx hb dX12_town_94 hl rfl ?_
          refine xgetM hx hb hts hiX12 hown hG hw (by repeat first | assumption | exact wu_eq _ _ _ | refine wu_ne (by omega) ?_) 6 (by decide) hlnk12 (by repeat first | assumption | exact vu_eq _ _ _ | refine vu_ne (by decide) ?_) dX12_town_95 ?_
          refine xiload_n hx hb dX12_town_98 hl rfl ?_
          refine lv_iconst (v := nI 0) hx hb dX12_town_99 (by decide) ?_
          refine xiast hx hb hG hw hS (by repeat first | assumption | exact wu_eq _ _ _ | refine wu_ne (by omega) ?_) (by omega) (by omega) dX12_town_100 (fun H locs hzz hw hS => ?_)
          first | refine xiincN hx hb 1 dX12_town_101 hl rfl (by decide) (by decide) rfl (fun ls hl => ?_) | refine xiinc hx hb dX12_town_101 hl rfl rfl (by decide) rfl (fun ls hl => ?_)
          refine lv_goto (tgt := 40) hx hb dX12_town_104 (by decide) ?_
          exact ih40 (p1 + 1) _ _ _ _ _ (by omega) (by omega) (fun k hk => by rw [vup_ne _ _ (by omega), vup_ne _ _ (by omega), vup_ne _ _ (by omega), vup_ne _ _ (by omega)]; exact hA4 k hk) ((((hM4.a1 _).a2 _).a3 _).a4 _) (tw_step h1 (by rw [(tP_at (by omega)).1, hkk]; rfl) (tP_at (by omega)).2) ((((hO4.wu (by omega) (by omega)).wu (by omega) (by omega)).wu (by omega) (by omega)).wu (by omega) (by omega)) hw hS hl
    exact loop40 ((sg S).length / 3 + 1) 0 A _ _ _ _ (by omega) (by omega) (fun _ _ => rfl) hM3 (fun j hj => absurd hj (Nat.not_lt_zero j)) ((hO1.wu (by omega) (by omega)).wu (by omega) (by omega)) hw hS hl
  · skip
    refine lv_bipush (v := -103) hx hb dX12_town_12 (by decide) ?_
    exact xiret hx hb hr hlk hw hS dX12_town_14 ⟨by rw [town_n c9], ⟨V1, A, hM1, by rw [town_n c9]; exact rm_vr hR hV1⟩, hO1⟩
set_option maxHeartbeats 4000000 in
set_option maxRecDepth 100000 in
theorem kX12_oneNow (l : Launch) (N0 : Nat) (G : XG) (w : Wd) (M0 : Nat) (V : Nat → Value) (A : Nat → Nat → Int32) (hM : MW G w M0 V A) (S : QS) (hR : RM S V A) (hL : WB S) (hpa : ∀ i, i < sn S → ∀ x ∈ sp S i, x < sn S) (p1 k : Nat) (hp1 : p1 < sn S) (hk6 : k < 6) : XM l yX12_oneNow wsX12_oneNow (rmD 4) N0 G [.ref M0, .int (nI p1), .int (nI k)] w vI (fun r w1 => oneV S p1 k = r ∧ ∃ A1, MW G w1 M0 V A1 ∧ RM S V A1 ∧ Out w w1 M0 (M0 + 20)) 0 0 := by
  refine XM.of (cc := cX12_oneNow) (maxL := 3) (ret := (some .int)) (by decide) rfl (Nat.le_of_ble_eq_true rfl) ?_
  intro p e s m below meth c hx hb hr hlk hin0 hml hown hts hN hw hG hS ls hl
  have hown : s.vm.findClass RX12 = some m.cls := hown
  have hiX12 : ∀ x ∈ u_ws RX12 TX12 37, x ∈ wsX12_oneNow := by decide +kernel
  have hlnk0 := hts (.fieldLink RX12 7 "LentQuillModel" "kindOf" "[I") (by decide +kernel)
  have hl : lh ls 3 [some (.ref M0), some (.int (nI p1)), some (.int (nI k))] := hl
  obtain ⟨hm0, ⟨hv3, hv4, hv5, hv6, hv8, hv9, hv11, hv12, hv15, hv18, hv19, hv20, hv24, hv30, hv31, hv32, hv33, hv34, hv35⟩, ha1, ha2, ha3, ha4, ha5, ha6, ha7, ha8, ha9, ha10, ha11, ha12, ha13, ha14, ha15, ha16, ha17, ha18, ha19⟩ := id hM
  obtain ⟨ht, hn, hlm, hdn, hhn, has, hpl, hkw, hRB, hpg, hkp⟩ := id hR
  obtain ⟨hn5, hl5, hkd, hsp, hd6, hdw, hh6, hg18, hgr, hIm⟩ := id hL
  obtain ⟨hk1, hw1⟩ := hkw p1 hp1
  refine xiload_n hx hb dX12_oneNow_0 hl rfl ?_
  rcases (show k = 0 ∨ k = 1 ∨ k = 2 ∨ k = 3 ∨ k = 4 ∨ k = 5 by omega) with rfl | rfl | rfl | rfl | rfl | rfl
  · skip
    refine lv_tableIn (off := 35) (tgt := 36) hx hb dX12_oneNow_1 (by decide) (by decide) (by decide) (by decide) ?_
    refine xaload_n hx hb dX12_oneNow_36 hl rfl ?_
    refine xgetM hx hb hts hiX12 hown hG hw (by repeat first | assumption | exact wu_eq _ _ _ | refine wu_ne (by omega) ?_) 3 (by decide) hlnk0 (by repeat first | assumption | exact vu_eq _ _ _ | refine vu_ne (by decide) ?_) dX12_oneNow_37 ?_
    refine xiload_n hx hb dX12_oneNow_40 hl rfl ?_
    refine xiald hx hb hG hw (by repeat first | assumption | exact wu_eq _ _ _ | refine wu_ne (by omega) ?_) (by omega) (by omega) dX12_oneNow_41 ?_
    refine xtop hk1 ?_
    exact xiret hx hb hr hlk hw hS dX12_oneNow_42 ⟨rfl, A, hM, hR, Out.rf⟩
  · skip
    refine lv_tableIn (off := 42) (tgt := 43) hx hb dX12_oneNow_1 (by decide) (by decide) (by decide) (by decide) ?_
    refine xaload_n hx hb dX12_oneNow_43 hl rfl ?_
    refine xiload_n hx hb dX12_oneNow_44 hl rfl ?_
    refine xVi ⟨hx, hb, hml, hown, hts⟩ (kX12_worth l N0 G _ _ V A hM S hR hL p1 hp1) (cwV 1 hts gX12_oneNow_X12_worth rfl rfl rfl (by decide +kernel) ⟨Nat.le_of_ble_eq_true rfl, Nat.le_of_ble_eq_true rfl⟩) hG hN hw hS (ci := 12) (by repeat first | assumption | exact wu_eq _ _ _ | refine wu_ne (by omega) ?_) rfl rfl hl.1 rfl (Nat.le_of_ble_eq_true rfl) dX12_oneNow_45 ⟨Nat.le_of_ble_eq_true rfl, Nat.le_of_ble_eq_true rfl⟩ (fun r45 w45 H locs hp45 hw hS => ?_)
    obtain ⟨rfl, rfl⟩ := hp45
    exact xiret hx hb hr hlk hw hS dX12_oneNow_48 ⟨rfl, A, hM, hR, Out.rf⟩
  · skip
    refine lv_tableIn (off := 48) (tgt := 49) hx hb dX12_oneNow_1 (by decide) (by decide) (by decide) (by decide) ?_
    refine xaload_n hx hb dX12_oneNow_49 hl rfl ?_
    refine xiload_n hx hb dX12_oneNow_50 hl rfl ?_
    refine xVi ⟨hx, hb, hml, hown, hts⟩ (kX12_holder l N0 G _ _ V A hM S hR hL p1 hp1) (cwV 1 hts gX12_oneNow_X12_holder rfl rfl rfl (by decide +kernel) ⟨Nat.le_of_ble_eq_true rfl, Nat.le_of_ble_eq_true rfl⟩) hG hN hw hS (ci := 12) (by repeat first | assumption | exact wu_eq _ _ _ | refine wu_ne (by omega) ?_) rfl rfl hl.1 rfl (Nat.le_of_ble_eq_true rfl) dX12_oneNow_51 ⟨Nat.le_of_ble_eq_true rfl, Nat.le_of_ble_eq_true rfl⟩ (fun r51 w51 H locs hp51 hw hS => ?_)
    obtain ⟨rfl, rfl⟩ := hp51
    exact xiret hx hb hr hlk hw hS dX12_oneNow_54 ⟨rfl, A, hM, hR, Out.rf⟩
  · skip
    refine lv_tableIn (off := 54) (tgt := 55) hx hb dX12_oneNow_1 (by decide) (by decide) (by decide) (by decide) ?_
    refine xaload_n hx hb dX12_oneNow_55 hl rfl ?_
    refine xiload_n hx hb dX12_oneNow_56 hl rfl ?_
    refine xVi ⟨hx, hb, hml, hown, hts⟩ (kX12_boundNow l N0 G _ _ V A hM S hR hL p1 hp1 (hpa p1 hp1)) (cwV 1 hts gX12_oneNow_X12_boundNow rfl rfl rfl (by decide +kernel) ⟨Nat.le_of_ble_eq_true rfl, Nat.le_of_ble_eq_true rfl⟩) hG hN hw hS (ci := 12) (by repeat first | assumption | exact wu_eq _ _ _ | refine wu_ne (by omega) ?_) rfl rfl hl.1 rfl (Nat.le_of_ble_eq_true rfl) dX12_oneNow_57 ⟨Nat.le_of_ble_eq_true rfl, Nat.le_of_ble_eq_true rfl⟩ (fun r57 w57 H locs hp57 hw hS => ?_)
    obtain ⟨rfl, A1, hM1, hN1, hO1⟩ := hp57
    exact xiret hx hb hr hlk hw hS dX12_oneNow_60 ⟨rfl, A1, hM1, rm_nk hR hN1, hO1⟩
  · skip
    refine lv_tableIn (off := 60) (tgt := 61) hx hb dX12_oneNow_1 (by decide) (by decide) (by decide) (by decide) ?_
    refine xaload_n hx hb dX12_oneNow_61 hl rfl ?_
    refine xiload_n hx hb dX12_oneNow_62 hl rfl ?_
    refine xVi ⟨hx, hb, hml, hown, hts⟩ (kX12_pensOf l N0 G _ _ V A hM S hR hL hpa p1 hp1) (cwV 1 hts gX12_oneNow_X12_pensOf rfl rfl rfl (by decide +kernel) ⟨Nat.le_of_ble_eq_true rfl, Nat.le_of_ble_eq_true rfl⟩) hG hN hw hS (ci := 12) (by repeat first | assumption | exact wu_eq _ _ _ | refine wu_ne (by omega) ?_) rfl rfl hl.1 rfl (Nat.le_of_ble_eq_true rfl) dX12_oneNow_63 ⟨Nat.le_of_ble_eq_true rfl, Nat.le_of_ble_eq_true rfl⟩ (fun r63 w63 H locs hp63 hw hS => ?_)
    obtain ⟨rfl, rfl⟩ := hp63
    exact xiret hx hb hr hlk hw hS dX12_oneNow_66 ⟨rfl, A, hM, hR, Out.rf⟩
  · skip
    refine lv_tableOut (tgt := 67) hx hb dX12_oneNow_1 (by decide) (by decide) ?_
    refine xaload_n hx hb dX12_oneNow_67 hl rfl ?_
    refine xiload_n hx hb dX12_oneNow_68 hl rfl ?_
    refine xVi ⟨hx, hb, hml, hown, hts⟩ (kX12_deedsOf l N0 G _ _ V A hM S hR hL p1 hp1) (cwV 1 hts gX12_oneNow_X12_deedsOf rfl rfl rfl (by decide +kernel) ⟨Nat.le_of_ble_eq_true rfl, Nat.le_of_ble_eq_true rfl⟩) hG hN hw hS (ci := 12) (by repeat first | assumption | exact wu_eq _ _ _ | refine wu_ne (by omega) ?_) rfl rfl hl.1 rfl (Nat.le_of_ble_eq_true rfl) dX12_oneNow_69 ⟨Nat.le_of_ble_eq_true rfl, Nat.le_of_ble_eq_true rfl⟩ (fun r69 w69 H locs hp69 hw hS => ?_)
    obtain ⟨rfl, rfl⟩ := hp69
    exact xiret hx hb hr hlk hw hS dX12_oneNow_72 ⟨rfl, A, hM, hR, Out.rf⟩
set_option maxHeartbeats 4000000 in
set_option maxRecDepth 100000 in
theorem kX12_about (l : Launch) (N0 : Nat) (G : XG) (w : Wd) (M0 : Nat) (V : Nat → Value) (A : Nat → Nat → Int32) (hM : MW G w M0 V A) (S : QS) (hR : RM S V A) (hL : WB S) (hpa : ∀ i, i < sn S → ∀ x ∈ sp S i, x < sn S) (x y : Int32) : XM l yX12_about wsX12_about (rmD 5) N0 G [.ref M0, .int x, .int y] w vI (fun r w1 => v_about S x y = r ∧ (∃ V1 A1, MW G w1 M0 V1 A1 ∧ RM (S) V1 A1) ∧ Out w w1 M0 (M0 + 20)) 0 0 := by
  refine XM.of (cc := cX12_about) (maxL := 3) (ret := (some .int)) (by decide) rfl (Nat.le_of_ble_eq_true rfl) ?_
  intro p e s m below meth c hx hb hr hlk hin0 hml hown hts hN hw hG hS ls hl
  have hown : s.vm.findClass RX12 = some m.cls := hown
  have hl : lh ls 3 [some (.ref M0), some (.int x), some (.int y)] := hl
  obtain ⟨hm0, ⟨hv3, hv4, hv5, hv6, hv8, hv9, hv11, hv12, hv15, hv18, hv19, hv20, hv24, hv30, hv31, hv32, hv33, hv34, hv35⟩, ha1, ha2, ha3, ha4, ha5, ha6, ha7, ha8, ha9, ha10, ha11, ha12, ha13, ha14, ha15, ha16, ha17, ha18, ha19⟩ := id hM
  obtain ⟨ht, hn, hlm, hdn, hhn, has, hpl, hkw, hRB, hpg, hkp⟩ := id hR
  obtain ⟨hn5, hl5, hkd, hsp, hd6, hdw, hh6, hg18, hgr, hIm⟩ := id hL
  rcases inR_or x (sn S) with ⟨i, hi, hi31, rfl⟩ | hx1 <;> rcases inR_or y 6 with ⟨k, hk, hk31, rfl⟩ | hy1
  · skip
    refine xaload_n hx hb dX12_about_0 hl rfl ?_
    refine xiload_n hx hb dX12_about_1 hl rfl ?_
    refine xVi ⟨hx, hb, hml, hown, hts⟩ (kX12_isOne l N0 G _ _ V A hM S hR hL _) (cwV 1 hts gX12_about_X12_isOne rfl rfl rfl (by decide +kernel) ⟨Nat.le_of_ble_eq_true rfl, Nat.le_of_ble_eq_true rfl⟩) hG hN hw hS (ci := 12) (by repeat first | assumption | exact wu_eq _ _ _ | refine wu_ne (by omega) ?_) rfl rfl hl.1 rfl (Nat.le_of_ble_eq_true rfl) dX12_about_2 ⟨Nat.le_of_ble_eq_true rfl, Nat.le_of_ble_eq_true rfl⟩ (fun r2 w2 H locs hp2 hw hS => ?_)
    obtain ⟨rfl, rfl⟩ := hp2
    refine xtop (y := bI true) (congrArg bI (decide_eq_true (inR_nI hi (by omega)))) ?_
    first | refine xifb_ne (tgt := 13) hx hb dX12_about_5 (by decide) (fun c5 => ?_) (fun c5 => ?_) | refine xif_ne (tgt := 13) hx hb dX12_about_5 (by decide) (by omega) (fun c5 => ?_) (fun c5 => ?_) | refine lv_if_ne (tgt := 13) hx hb dX12_about_5 (by decide) (fun c5 => ?_) (fun c5 => ?_)
    · skip
      refine xiload_n hx hb dX12_about_13 hl rfl ?_
      refine lv_iconst (v := nI 0) hx hb dX12_about_14 (by decide) ?_
      refine lv_iconst (v := nI 5) hx hb dX12_about_15 (by decide) ?_
      refine xSi ⟨hx, hb, hml, hown, hts⟩ (kX12_within l N0 G _ _ _ _) (va_cwS 3 hts gX12_about_X12_within rfl rfl rfl (by decide +kernel) ⟨Nat.le_of_ble_eq_true rfl, Nat.le_of_ble_eq_true rfl⟩) hG hN hw hS rfl hl.1 rfl (Nat.le_of_ble_eq_true rfl) dX12_about_16 ⟨Nat.le_of_ble_eq_true rfl, Nat.le_of_ble_eq_true rfl⟩ (fun r16 w16 H locs hp16 hw hS => ?_)
      obtain ⟨rfl, rfl⟩ := hp16
      refine xtop (y := bI true) (congrArg bI (wiB_y (by omega) (by omega) (by omega))) ?_
      first | refine xifb_eq (tgt := 31) hx hb dX12_about_19 (by decide) (fun c19 => ?_) (fun c19 => ?_) | refine xif_eq (tgt := 31) hx hb dX12_about_19 (by decide) (by omega) (fun c19 => ?_) (fun c19 => ?_) | refine lv_if_eq (tgt := 31) hx hb dX12_about_19 (by decide) (fun c19 => ?_) (fun c19 => ?_)
      · skip
        exfalso
        cases c19
      · skip
        refine xaload_n hx hb dX12_about_22 hl rfl ?_
        refine xiload_n hx hb dX12_about_23 hl rfl ?_
        refine xiload_n hx hb dX12_about_24 hl rfl ?_
        refine xVi ⟨hx, hb, hml, hown, hts⟩ (kX12_oneNow l N0 G _ _ V A hM S hR hL hpa i k hi hk) (cwV 2 hts gX12_about_X12_oneNow rfl rfl rfl (by decide +kernel) ⟨Nat.le_of_ble_eq_true rfl, Nat.le_of_ble_eq_true rfl⟩) hG hN hw hS (ci := 12) (by repeat first | assumption | exact wu_eq _ _ _ | refine wu_ne (by omega) ?_) rfl rfl hl.1 rfl (Nat.le_of_ble_eq_true rfl) dX12_about_25 ⟨Nat.le_of_ble_eq_true rfl, Nat.le_of_ble_eq_true rfl⟩ (fun r25 w25 H locs hp25 hw hS => ?_)
        obtain ⟨rfl, A1, hM1, hR1, hO1⟩ := hp25
        refine lv_goto (tgt := 33) hx hb dX12_about_28 (by decide) ?_
        exact xiret hx hb hr hlk hw hS dX12_about_33 ⟨by rw [v_about, onR_in hi hi31, onR_in hk hk31], ⟨V, A1, hM1, hR1⟩, hO1⟩
    · skip
      exfalso
      cases c5
  · skip
    refine xaload_n hx hb dX12_about_0 hl rfl ?_
    refine xiload_n hx hb dX12_about_1 hl rfl ?_
    refine xVi ⟨hx, hb, hml, hown, hts⟩ (kX12_isOne l N0 G _ _ V A hM S hR hL _) (cwV 1 hts gX12_about_X12_isOne rfl rfl rfl (by decide +kernel) ⟨Nat.le_of_ble_eq_true rfl, Nat.le_of_ble_eq_true rfl⟩) hG hN hw hS (ci := 12) (by repeat first | assumption | exact wu_eq _ _ _ | refine wu_ne (by omega) ?_) rfl rfl hl.1 rfl (Nat.le_of_ble_eq_true rfl) dX12_about_2 ⟨Nat.le_of_ble_eq_true rfl, Nat.le_of_ble_eq_true rfl⟩ (fun r2 w2 H locs hp2 hw hS => ?_)
    obtain ⟨rfl, rfl⟩ := hp2
    refine xtop (y := bI true) (congrArg bI (decide_eq_true (inR_nI hi (by omega)))) ?_
    first | refine xifb_ne (tgt := 13) hx hb dX12_about_5 (by decide) (fun c5 => ?_) (fun c5 => ?_) | refine xif_ne (tgt := 13) hx hb dX12_about_5 (by decide) (by omega) (fun c5 => ?_) (fun c5 => ?_) | refine lv_if_ne (tgt := 13) hx hb dX12_about_5 (by decide) (fun c5 => ?_) (fun c5 => ?_)
    · skip
      refine xiload_n hx hb dX12_about_13 hl rfl ?_
      refine lv_iconst (v := nI 0) hx hb dX12_about_14 (by decide) ?_
      refine lv_iconst (v := nI 5) hx hb dX12_about_15 (by decide) ?_
      refine xSi ⟨hx, hb, hml, hown, hts⟩ (kX12_within l N0 G _ _ _ _) (va_cwS 3 hts gX12_about_X12_within rfl rfl rfl (by decide +kernel) ⟨Nat.le_of_ble_eq_true rfl, Nat.le_of_ble_eq_true rfl⟩) hG hN hw hS rfl hl.1 rfl (Nat.le_of_ble_eq_true rfl) dX12_about_16 ⟨Nat.le_of_ble_eq_true rfl, Nat.le_of_ble_eq_true rfl⟩ (fun r16 w16 H locs hp16 hw hS => ?_)
      obtain ⟨rfl, rfl⟩ := hp16
      refine xtop (y := bI false) (congrArg bI (wiB_n hy1 (by omega))) ?_
      first | refine xifb_eq (tgt := 31) hx hb dX12_about_19 (by decide) (fun c19 => ?_) (fun c19 => ?_) | refine xif_eq (tgt := 31) hx hb dX12_about_19 (by decide) (by omega) (fun c19 => ?_) (fun c19 => ?_) | refine lv_if_eq (tgt := 31) hx hb dX12_about_19 (by decide) (fun c19 => ?_) (fun c19 => ?_)
      · skip
        refine lv_bipush (v := -102) hx hb dX12_about_31 (by decide) ?_
        exact xiret hx hb hr hlk hw hS dX12_about_33 ⟨by rw [v_about, onR_in hi hi31, onR_out hy1], ⟨V, A, hM, hR⟩, Out.rf⟩
      · skip
        exfalso
        cases c19
    · skip
      exfalso
      cases c5
  · skip
    refine xaload_n hx hb dX12_about_0 hl rfl ?_
    refine xiload_n hx hb dX12_about_1 hl rfl ?_
    refine xVi ⟨hx, hb, hml, hown, hts⟩ (kX12_isOne l N0 G _ _ V A hM S hR hL _) (cwV 1 hts gX12_about_X12_isOne rfl rfl rfl (by decide +kernel) ⟨Nat.le_of_ble_eq_true rfl, Nat.le_of_ble_eq_true rfl⟩) hG hN hw hS (ci := 12) (by repeat first | assumption | exact wu_eq _ _ _ | refine wu_ne (by omega) ?_) rfl rfl hl.1 rfl (Nat.le_of_ble_eq_true rfl) dX12_about_2 ⟨Nat.le_of_ble_eq_true rfl, Nat.le_of_ble_eq_true rfl⟩ (fun r2 w2 H locs hp2 hw hS => ?_)
    obtain ⟨rfl, rfl⟩ := hp2
    refine xtop (y := bI false) (congrArg bI (decide_eq_false hx1)) ?_
    first | refine xifb_ne (tgt := 13) hx hb dX12_about_5 (by decide) (fun c5 => ?_) (fun c5 => ?_) | refine xif_ne (tgt := 13) hx hb dX12_about_5 (by decide) (by omega) (fun c5 => ?_) (fun c5 => ?_) | refine lv_if_ne (tgt := 13) hx hb dX12_about_5 (by decide) (fun c5 => ?_) (fun c5 => ?_)
    · skip
      exfalso
      cases c5
    · skip
      refine lv_bipush (v := -101) hx hb dX12_about_8 (by decide) ?_
      refine lv_goto (tgt := 33) hx hb dX12_about_10 (by decide) ?_
      exact xiret hx hb hr hlk hw hS dX12_about_33 ⟨by rw [v_about, onR_out hx1], ⟨V, A, hM, hR⟩, Out.rf⟩
  · skip
    refine xaload_n hx hb dX12_about_0 hl rfl ?_
    refine xiload_n hx hb dX12_about_1 hl rfl ?_
    refine xVi ⟨hx, hb, hml, hown, hts⟩ (kX12_isOne l N0 G _ _ V A hM S hR hL _) (cwV 1 hts gX12_about_X12_isOne rfl rfl rfl (by decide +kernel) ⟨Nat.le_of_ble_eq_true rfl, Nat.le_of_ble_eq_true rfl⟩) hG hN hw hS (ci := 12) (by repeat first | assumption | exact wu_eq _ _ _ | refine wu_ne (by omega) ?_) rfl rfl hl.1 rfl (Nat.le_of_ble_eq_true rfl) dX12_about_2 ⟨Nat.le_of_ble_eq_true rfl, Nat.le_of_ble_eq_true rfl⟩ (fun r2 w2 H locs hp2 hw hS => ?_)
    obtain ⟨rfl, rfl⟩ := hp2
    refine xtop (y := bI false) (congrArg bI (decide_eq_false hx1)) ?_
    first | refine xifb_ne (tgt := 13) hx hb dX12_about_5 (by decide) (fun c5 => ?_) (fun c5 => ?_) | refine xif_ne (tgt := 13) hx hb dX12_about_5 (by decide) (by omega) (fun c5 => ?_) (fun c5 => ?_) | refine lv_if_ne (tgt := 13) hx hb dX12_about_5 (by decide) (fun c5 => ?_) (fun c5 => ?_)
    · skip
      exfalso
      cases c5
    · skip
      refine lv_bipush (v := -101) hx hb dX12_about_8 (by decide) ?_
      refine lv_goto (tgt := 33) hx hb dX12_about_10 (by decide) ?_
      exact xiret hx hb hr hlk hw hS dX12_about_33 ⟨by rw [v_about, onR_out hx1], ⟨V, A, hM, hR⟩, Out.rf⟩
set_option maxHeartbeats 4000000 in
set_option maxRecDepth 100000 in
theorem kX12_as (l : Launch) (N0 : Nat) (G : XG) (w : Wd) (M0 : Nat) (V : Nat → Value) (A : Nat → Nat → Int32) (hM : MW G w M0 V A) (S : QS) (hR : RM S V A) (hL : WB S) (x y : Int32) : XM l yX12_as wsX12_as (rmD 3) N0 G [.ref M0, .int x, .int y] w vI (fun r w1 => v_as S x y = r ∧ w = w1) 0 0 := by
  refine XM.of (cc := cX12_as) (maxL := 4) (ret := (some .int)) (by decide) rfl (Nat.le_of_ble_eq_true rfl) ?_
  intro p e s m below meth c hx hb hr hlk hin0 hml hown hts hN hw hG hS ls hl
  have hown : s.vm.findClass RX12 = some m.cls := hown
  have hiX12 : ∀ x ∈ u_ws RX12 TX12 37, x ∈ wsX12_as := by decide +kernel
  have hlnk0 := hts (.fieldLink RX12 7 "LentQuillModel" "kindOf" "[I") (by decide +kernel)
  have hl : lh ls 4 [some (.ref M0), some (.int x), some (.int y), none] := hl
  obtain ⟨hm0, ⟨hv3, hv4, hv5, hv6, hv8, hv9, hv11, hv12, hv15, hv18, hv19, hv20, hv24, hv30, hv31, hv32, hv33, hv34, hv35⟩, ha1, ha2, ha3, ha4, ha5, ha6, ha7, ha8, ha9, ha10, ha11, ha12, ha13, ha14, ha15, ha16, ha17, ha18, ha19⟩ := id hM
  obtain ⟨ht, hn, hlm, hdn, hhn, has, hpl, hkw, hRB, hpg, hkp⟩ := id hR
  obtain ⟨hn5, hl5, hkd, hsp, hd6, hdw, hh6, hg18, hgr, hIm⟩ := id hL
  rcases inR_or x (sn S) with ⟨i, hi, hi31, rfl⟩ | hx1 <;> rcases inR_or y 5 with ⟨k, hk, hk31, rfl⟩ | hy1
  · skip
    obtain ⟨hk1, hw1⟩ := hkw i hi
    obtain ⟨hk4, hw9⟩ := hkd i hi
    refine xaload_n hx hb dX12_as_0 hl rfl ?_
    refine xiload_n hx hb dX12_as_1 hl rfl ?_
    refine xVi ⟨hx, hb, hml, hown, hts⟩ (kX12_isOne l N0 G _ _ V A hM S hR hL _) (cwV 1 hts gX12_as_X12_isOne rfl rfl rfl (by decide +kernel) ⟨Nat.le_of_ble_eq_true rfl, Nat.le_of_ble_eq_true rfl⟩) hG hN hw hS (ci := 12) (by repeat first | assumption | exact wu_eq _ _ _ | refine wu_ne (by omega) ?_) rfl rfl hl.1 rfl (Nat.le_of_ble_eq_true rfl) dX12_as_2 ⟨Nat.le_of_ble_eq_true rfl, Nat.le_of_ble_eq_true rfl⟩ (fun r2 w2 H locs hp2 hw hS => ?_)
    obtain ⟨rfl, rfl⟩ := hp2
    refine xtop (y := bI true) (congrArg bI (decide_eq_true (inR_nI hi (by omega)))) ?_
    first | refine xifb_ne (tgt := 11) hx hb dX12_as_5 (by decide) (fun c5 => ?_) (fun c5 => ?_) | refine xif_ne (tgt := 11) hx hb dX12_as_5 (by decide) (by omega) (fun c5 => ?_) (fun c5 => ?_) | refine lv_if_ne (tgt := 11) hx hb dX12_as_5 (by decide) (fun c5 => ?_) (fun c5 => ?_)
    · skip
      refine xiload_n hx hb dX12_as_11 hl rfl ?_
      refine lv_iconst (v := nI 0) hx hb dX12_as_12 (by decide) ?_
      refine lv_iconst (v := nI 4) hx hb dX12_as_13 (by decide) ?_
      refine xSi ⟨hx, hb, hml, hown, hts⟩ (kX12_within l N0 G _ _ _ _) (va_cwS 3 hts gX12_as_X12_within rfl rfl rfl (by decide +kernel) ⟨Nat.le_of_ble_eq_true rfl, Nat.le_of_ble_eq_true rfl⟩) hG hN hw hS rfl hl.1 rfl (Nat.le_of_ble_eq_true rfl) dX12_as_14 ⟨Nat.le_of_ble_eq_true rfl, Nat.le_of_ble_eq_true rfl⟩ (fun r14 w14 H locs hp14 hw hS => ?_)
      obtain ⟨rfl, rfl⟩ := hp14
      refine xtop (y := bI true) (congrArg bI (wiB_y (by omega) (by omega) (by omega))) ?_
      first | refine xifb_ne (tgt := 23) hx hb dX12_as_17 (by decide) (fun c17 => ?_) (fun c17 => ?_) | refine xif_ne (tgt := 23) hx hb dX12_as_17 (by decide) (by omega) (fun c17 => ?_) (fun c17 => ?_) | refine lv_if_ne (tgt := 23) hx hb dX12_as_17 (by decide) (fun c17 => ?_) (fun c17 => ?_)
      · skip
        refine xaload_n hx hb dX12_as_23 hl rfl ?_
        refine xgetM hx hb hts hiX12 hown hG hw (by repeat first | assumption | exact wu_eq _ _ _ | refine wu_ne (by omega) ?_) 3 (by decide) hlnk0 (by repeat first | assumption | exact vu_eq _ _ _ | refine vu_ne (by decide) ?_) dX12_as_24 ?_
        refine xiload_n hx hb dX12_as_27 hl rfl ?_
        refine xiald hx hb hG hw (by repeat first | assumption | exact wu_eq _ _ _ | refine wu_ne (by omega) ?_) (by omega) (by omega) dX12_as_28 ?_
        refine xtop hk1 ?_
        refine xistore_n hx hb dX12_as_29 hl (by decide) rfl (fun ls hl => ?_)
        refine xiload_n hx hb dX12_as_30 hl rfl ?_
        first | refine xifb_eq (tgt := 49) hx hb dX12_as_31 (by decide) (fun c31 => ?_) (fun c31 => ?_) | refine xif_eq (tgt := 49) hx hb dX12_as_31 (by decide) (by omega) (fun c31 => ?_) (fun c31 => ?_) | refine lv_if_eq (tgt := 49) hx hb dX12_as_31 (by decide) (fun c31 => ?_) (fun c31 => ?_)
        · skip
          refine xiload_n hx hb dX12_as_49 hl rfl ?_
          refine lv_goto (tgt := 54) hx hb dX12_as_50 (by decide) ?_
          exact xiret hx hb hr hlk hw hS dX12_as_54 ⟨by rw [v_as, onR_in hi hi31, onR_in hk hk31]; first | exact if_pos (by omega) | exact if_neg (by omega), rfl⟩
        · skip
          refine xiload_n hx hb dX12_as_34 hl rfl ?_
          refine xiload_n hx hb dX12_as_35 hl rfl ?_
          first | refine xcmp_eq (tgt := 49) hx hb dX12_as_36 (by decide) (by omega) (by omega) (fun c36 => ?_) (fun c36 => ?_) | refine lv_icmp_eq (tgt := 49) hx hb dX12_as_36 (by decide) (fun c36 => ?_) (fun c36 => ?_)
          · skip
            refine xiload_n hx hb dX12_as_49 hl rfl ?_
            refine lv_goto (tgt := 54) hx hb dX12_as_50 (by decide) ?_
            exact xiret hx hb hr hlk hw hS dX12_as_54 ⟨by rw [v_as, onR_in hi hi31, onR_in hk hk31]; first | exact if_pos (by omega) | exact if_neg (by omega), rfl⟩
          · skip
            refine xiload_n hx hb dX12_as_39 hl rfl ?_
            refine lv_iconst (v := nI 1) hx hb dX12_as_40 (by decide) ?_
            first | refine xcmp_ne (tgt := 53) hx hb dX12_as_41 (by decide) (by omega) (by omega) (fun c41 => ?_) (fun c41 => ?_) | refine lv_icmp_ne (tgt := 53) hx hb dX12_as_41 (by decide) (fun c41 => ?_) (fun c41 => ?_)
            · skip
              refine lv_iconst (v := -1) hx hb dX12_as_53 (by decide) ?_
              exact xiret hx hb hr hlk hw hS dX12_as_54 ⟨by rw [v_as, onR_in hi hi31, onR_in hk hk31]; first | exact if_pos (by omega) | exact if_neg (by omega), rfl⟩
            · skip
              refine xiload_n hx hb dX12_as_44 hl rfl ?_
              refine lv_iconst (v := nI 4) hx hb dX12_as_45 (by decide) ?_
              first | refine xcmp_ne (tgt := 53) hx hb dX12_as_46 (by decide) (by omega) (by omega) (fun c46 => ?_) (fun c46 => ?_) | refine lv_icmp_ne (tgt := 53) hx hb dX12_as_46 (by decide) (fun c46 => ?_) (fun c46 => ?_)
              · skip
                refine lv_iconst (v := -1) hx hb dX12_as_53 (by decide) ?_
                exact xiret hx hb hr hlk hw hS dX12_as_54 ⟨by rw [v_as, onR_in hi hi31, onR_in hk hk31]; first | exact if_pos (by omega) | exact if_neg (by omega), rfl⟩
              · skip
                refine xiload_n hx hb dX12_as_49 hl rfl ?_
                refine lv_goto (tgt := 54) hx hb dX12_as_50 (by decide) ?_
                exact xiret hx hb hr hlk hw hS dX12_as_54 ⟨by rw [v_as, onR_in hi hi31, onR_in hk hk31]; first | exact if_pos (by omega) | exact if_neg (by omega), rfl⟩
      · skip
        exfalso
        cases c17
    · skip
      exfalso
      cases c5
  · skip
    refine xaload_n hx hb dX12_as_0 hl rfl ?_
    refine xiload_n hx hb dX12_as_1 hl rfl ?_
    refine xVi ⟨hx, hb, hml, hown, hts⟩ (kX12_isOne l N0 G _ _ V A hM S hR hL _) (cwV 1 hts gX12_as_X12_isOne rfl rfl rfl (by decide +kernel) ⟨Nat.le_of_ble_eq_true rfl, Nat.le_of_ble_eq_true rfl⟩) hG hN hw hS (ci := 12) (by repeat first | assumption | exact wu_eq _ _ _ | refine wu_ne (by omega) ?_) rfl rfl hl.1 rfl (Nat.le_of_ble_eq_true rfl) dX12_as_2 ⟨Nat.le_of_ble_eq_true rfl, Nat.le_of_ble_eq_true rfl⟩ (fun r2 w2 H locs hp2 hw hS => ?_)
    obtain ⟨rfl, rfl⟩ := hp2
    refine xtop (y := bI true) (congrArg bI (decide_eq_true (inR_nI hi (by omega)))) ?_
    first | refine xifb_ne (tgt := 11) hx hb dX12_as_5 (by decide) (fun c5 => ?_) (fun c5 => ?_) | refine xif_ne (tgt := 11) hx hb dX12_as_5 (by decide) (by omega) (fun c5 => ?_) (fun c5 => ?_) | refine lv_if_ne (tgt := 11) hx hb dX12_as_5 (by decide) (fun c5 => ?_) (fun c5 => ?_)
    · skip
      refine xiload_n hx hb dX12_as_11 hl rfl ?_
      refine lv_iconst (v := nI 0) hx hb dX12_as_12 (by decide) ?_
      refine lv_iconst (v := nI 4) hx hb dX12_as_13 (by decide) ?_
      refine xSi ⟨hx, hb, hml, hown, hts⟩ (kX12_within l N0 G _ _ _ _) (va_cwS 3 hts gX12_as_X12_within rfl rfl rfl (by decide +kernel) ⟨Nat.le_of_ble_eq_true rfl, Nat.le_of_ble_eq_true rfl⟩) hG hN hw hS rfl hl.1 rfl (Nat.le_of_ble_eq_true rfl) dX12_as_14 ⟨Nat.le_of_ble_eq_true rfl, Nat.le_of_ble_eq_true rfl⟩ (fun r14 w14 H locs hp14 hw hS => ?_)
      obtain ⟨rfl, rfl⟩ := hp14
      refine xtop (y := bI false) (congrArg bI (wiB_n hy1 (by omega))) ?_
      first | refine xifb_ne (tgt := 23) hx hb dX12_as_17 (by decide) (fun c17 => ?_) (fun c17 => ?_) | refine xif_ne (tgt := 23) hx hb dX12_as_17 (by decide) (by omega) (fun c17 => ?_) (fun c17 => ?_) | refine lv_if_ne (tgt := 23) hx hb dX12_as_17 (by decide) (fun c17 => ?_) (fun c17 => ?_)
      · skip
        exfalso
        cases c17
      · skip
        refine lv_bipush (v := -102) hx hb dX12_as_20 (by decide) ?_
        exact xiret hx hb hr hlk hw hS dX12_as_22 ⟨by rw [v_as, onR_in hi hi31, onR_out hy1], rfl⟩
    · skip
      exfalso
      cases c5
  · skip
    refine xaload_n hx hb dX12_as_0 hl rfl ?_
    refine xiload_n hx hb dX12_as_1 hl rfl ?_
    refine xVi ⟨hx, hb, hml, hown, hts⟩ (kX12_isOne l N0 G _ _ V A hM S hR hL _) (cwV 1 hts gX12_as_X12_isOne rfl rfl rfl (by decide +kernel) ⟨Nat.le_of_ble_eq_true rfl, Nat.le_of_ble_eq_true rfl⟩) hG hN hw hS (ci := 12) (by repeat first | assumption | exact wu_eq _ _ _ | refine wu_ne (by omega) ?_) rfl rfl hl.1 rfl (Nat.le_of_ble_eq_true rfl) dX12_as_2 ⟨Nat.le_of_ble_eq_true rfl, Nat.le_of_ble_eq_true rfl⟩ (fun r2 w2 H locs hp2 hw hS => ?_)
    obtain ⟨rfl, rfl⟩ := hp2
    refine xtop (y := bI false) (congrArg bI (decide_eq_false hx1)) ?_
    first | refine xifb_ne (tgt := 11) hx hb dX12_as_5 (by decide) (fun c5 => ?_) (fun c5 => ?_) | refine xif_ne (tgt := 11) hx hb dX12_as_5 (by decide) (by omega) (fun c5 => ?_) (fun c5 => ?_) | refine lv_if_ne (tgt := 11) hx hb dX12_as_5 (by decide) (fun c5 => ?_) (fun c5 => ?_)
    · skip
      exfalso
      cases c5
    · skip
      refine lv_bipush (v := -101) hx hb dX12_as_8 (by decide) ?_
      exact xiret hx hb hr hlk hw hS dX12_as_10 ⟨by rw [v_as, onR_out hx1], rfl⟩
  · skip
    refine xaload_n hx hb dX12_as_0 hl rfl ?_
    refine xiload_n hx hb dX12_as_1 hl rfl ?_
    refine xVi ⟨hx, hb, hml, hown, hts⟩ (kX12_isOne l N0 G _ _ V A hM S hR hL _) (cwV 1 hts gX12_as_X12_isOne rfl rfl rfl (by decide +kernel) ⟨Nat.le_of_ble_eq_true rfl, Nat.le_of_ble_eq_true rfl⟩) hG hN hw hS (ci := 12) (by repeat first | assumption | exact wu_eq _ _ _ | refine wu_ne (by omega) ?_) rfl rfl hl.1 rfl (Nat.le_of_ble_eq_true rfl) dX12_as_2 ⟨Nat.le_of_ble_eq_true rfl, Nat.le_of_ble_eq_true rfl⟩ (fun r2 w2 H locs hp2 hw hS => ?_)
    obtain ⟨rfl, rfl⟩ := hp2
    refine xtop (y := bI false) (congrArg bI (decide_eq_false hx1)) ?_
    first | refine xifb_ne (tgt := 11) hx hb dX12_as_5 (by decide) (fun c5 => ?_) (fun c5 => ?_) | refine xif_ne (tgt := 11) hx hb dX12_as_5 (by decide) (by omega) (fun c5 => ?_) (fun c5 => ?_) | refine lv_if_ne (tgt := 11) hx hb dX12_as_5 (by decide) (fun c5 => ?_) (fun c5 => ?_)
    · skip
      exfalso
      cases c5
    · skip
      refine lv_bipush (v := -101) hx hb dX12_as_8 (by decide) ?_
      exact xiret hx hb hr hlk hw hS dX12_as_10 ⟨by rw [v_as, onR_out hx1], rfl⟩
set_option maxHeartbeats 4000000 in
set_option maxRecDepth 100000 in
theorem kX12_lend (l : Launch) (N0 : Nat) (G : XG) (w : Wd) (M0 : Nat) (V : Nat → Value) (A : Nat → Nat → Int32) (hM : MW G w M0 V A) (S : QS) (hR : RM S V A) (hL : WB S) (hpa : ∀ i, i < sn S → ∀ x ∈ sp S i, x < sn S) (x y : Int32) : XM l yX12_lend wsX12_lend (rmD 4) N0 G [.ref M0, .int x, .int y] w vI (fun r w1 => (o_lend S x y).1 = r ∧ (∃ V1 A1, MW G w1 M0 V1 A1 ∧ RM ((o_lend S x y).2) V1 A1) ∧ Out w w1 M0 (M0 + 20)) 0 0 := by
  refine XM.of (cc := cX12_lend) (maxL := 3) (ret := (some .int)) (by decide) rfl (Nat.le_of_ble_eq_true rfl) ?_
  intro p e s m below meth c hx hb hr hlk hin0 hml hown hts hN hw hG hS ls hl
  have hown : s.vm.findClass RX12 = some m.cls := hown
  have hiX12 : ∀ x ∈ u_ws RX12 TX12 37, x ∈ wsX12_lend := by decide +kernel
  have hlnk0 := hts (.fieldLink RX12 19 "LentQuillModel" "lentOf" "[I") (by decide +kernel)
  have hlnk1 := hts (.fieldLink RX12 16 "LentQuillModel" "handOf" "[I") (by decide +kernel)
  have hl : lh ls 3 [some (.ref M0), some (.int x), some (.int y)] := hl
  obtain ⟨hm0, ⟨hv3, hv4, hv5, hv6, hv8, hv9, hv11, hv12, hv15, hv18, hv19, hv20, hv24, hv30, hv31, hv32, hv33, hv34, hv35⟩, ha1, ha2, ha3, ha4, ha5, ha6, ha7, ha8, ha9, ha10, ha11, ha12, ha13, ha14, ha15, ha16, ha17, ha18, ha19⟩ := id hM
  obtain ⟨ht, hn, hlm, hdn, hhn, has, hpl, hkw, hRB, hpg, hkp⟩ := id hR
  obtain ⟨hn5, hl5, hkd, hsp, hd6, hdw, hh6, hg18, hgr, hIm⟩ := id hL
  rcases inR_or x (sn S) with ⟨i, hi, hi31, rfl⟩ | hx1 <;> rcases inR_or y (sn S) with ⟨k, hk, hk31, rfl⟩ | hy1
  · skip
    obtain ⟨hlo, hha⟩ := hRB.1 i hi
    obtain ⟨hs1, hs41⟩ := hsp i hi
    have hlo : A 4 i = nI ((sp S i).length - 1) := hlo
    have hg0 : (sp S i).getD 0 0 < sn S := getD_lt (hpa i hi) (by omega)
    refine xaload_n hx hb dX12_lend_0 hl rfl ?_
    refine xiload_n hx hb dX12_lend_1 hl rfl ?_
    refine xVi ⟨hx, hb, hml, hown, hts⟩ (kX12_isOne l N0 G _ _ V A hM S hR hL _) (cwV 1 hts gX12_lend_X12_isOne rfl rfl rfl (by decide +kernel) ⟨Nat.le_of_ble_eq_true rfl, Nat.le_of_ble_eq_true rfl⟩) hG hN hw hS (ci := 12) (by repeat first | assumption | exact wu_eq _ _ _ | refine wu_ne (by omega) ?_) rfl rfl hl.1 rfl (Nat.le_of_ble_eq_true rfl) dX12_lend_2 ⟨Nat.le_of_ble_eq_true rfl, Nat.le_of_ble_eq_true rfl⟩ (fun r2 w2 H locs hp2 hw hS => ?_)
    obtain ⟨rfl, rfl⟩ := hp2
    refine xtop (y := bI true) (congrArg bI (decide_eq_true (inR_nI hi (by omega)))) ?_
    first | refine xifb_eq (tgt := 16) hx hb dX12_lend_5 (by decide) (fun c5 => ?_) (fun c5 => ?_) | refine xif_eq (tgt := 16) hx hb dX12_lend_5 (by decide) (by omega) (fun c5 => ?_) (fun c5 => ?_) | refine lv_if_eq (tgt := 16) hx hb dX12_lend_5 (by decide) (fun c5 => ?_) (fun c5 => ?_)
    · skip
      exfalso
      cases c5
    · skip
      refine xaload_n hx hb dX12_lend_8 hl rfl ?_
      refine xiload_n hx hb dX12_lend_9 hl rfl ?_
      refine xVi ⟨hx, hb, hml, hown, hts⟩ (kX12_isOne l N0 G _ _ V A hM S hR hL _) (cwV 1 hts gX12_lend_X12_isOne rfl rfl rfl (by decide +kernel) ⟨Nat.le_of_ble_eq_true rfl, Nat.le_of_ble_eq_true rfl⟩) hG hN hw hS (ci := 12) (by repeat first | assumption | exact wu_eq _ _ _ | refine wu_ne (by omega) ?_) rfl rfl hl.1 rfl (Nat.le_of_ble_eq_true rfl) dX12_lend_10 ⟨Nat.le_of_ble_eq_true rfl, Nat.le_of_ble_eq_true rfl⟩ (fun r10 w10 H locs hp10 hw hS => ?_)
      obtain ⟨rfl, rfl⟩ := hp10
      refine xtop (y := bI true) (congrArg bI (decide_eq_true (inR_nI hk (by omega)))) ?_
      first | refine xifb_ne (tgt := 19) hx hb dX12_lend_13 (by decide) (fun c13 => ?_) (fun c13 => ?_) | refine xif_ne (tgt := 19) hx hb dX12_lend_13 (by decide) (by omega) (fun c13 => ?_) (fun c13 => ?_) | refine lv_if_ne (tgt := 19) hx hb dX12_lend_13 (by decide) (fun c13 => ?_) (fun c13 => ?_)
      · skip
        refine xaload_n hx hb dX12_lend_19 hl rfl ?_
        refine xiload_n hx hb dX12_lend_20 hl rfl ?_
        refine xVi ⟨hx, hb, hml, hown, hts⟩ (kX12_holder l N0 G _ _ V A hM S hR hL i hi) (cwV 1 hts gX12_lend_X12_holder rfl rfl rfl (by decide +kernel) ⟨Nat.le_of_ble_eq_true rfl, Nat.le_of_ble_eq_true rfl⟩) hG hN hw hS (ci := 12) (by repeat first | assumption | exact wu_eq _ _ _ | refine wu_ne (by omega) ?_) rfl rfl hl.1 rfl (Nat.le_of_ble_eq_true rfl) dX12_lend_21 ⟨Nat.le_of_ble_eq_true rfl, Nat.le_of_ble_eq_true rfl⟩ (fun r21 w21 H locs hp21 hw hS => ?_)
        obtain ⟨rfl, rfl⟩ := hp21
        refine xiload_n hx hb dX12_lend_24 hl rfl ?_
        first | refine xcmp_eq (tgt := 40) hx hb dX12_lend_25 (by decide) (by omega) (by omega) (fun c25 => ?_) (fun c25 => ?_) | refine lv_icmp_eq (tgt := 40) hx hb dX12_lend_25 (by decide) (fun c25 => ?_) (fun c25 => ?_)
        · skip
          refine lv_bipush (v := -103) hx hb dX12_lend_40 (by decide) ?_
          have hno : ¬ ((sp S i).getD 0 0 ≠ k ∧ chu (kd (sP S) ((sp S i).getD 0 0)) = false) := fun z => by first | exact z.1 c25 | exact absurd (z.2.symm.trans c37) (by decide)
          exact xiret hx hb hr hlk hw hS dX12_lend_42 ⟨by rw [lend_no hi hi31 hk hk31 hno], ⟨V, A, hM, by rw [lend_no hi hi31 hk hk31 hno]; exact hR⟩, Out.rf⟩
        · skip
          refine xaload_n hx hb dX12_lend_28 hl rfl ?_
          refine xaload_n hx hb dX12_lend_29 hl rfl ?_
          refine xiload_n hx hb dX12_lend_30 hl rfl ?_
          refine xVi ⟨hx, hb, hml, hown, hts⟩ (kX12_holder l N0 G _ _ V A hM S hR hL i hi) (cwV 1 hts gX12_lend_X12_holder rfl rfl rfl (by decide +kernel) ⟨Nat.le_of_ble_eq_true rfl, Nat.le_of_ble_eq_true rfl⟩) hG hN hw hS (ci := 12) (by repeat first | assumption | exact wu_eq _ _ _ | refine wu_ne (by omega) ?_) rfl rfl hl.1 rfl (Nat.le_of_ble_eq_true rfl) dX12_lend_31 ⟨Nat.le_of_ble_eq_true rfl, Nat.le_of_ble_eq_true rfl⟩ (fun r31 w31 H locs hp31 hw hS => ?_)
          obtain ⟨rfl, rfl⟩ := hp31
          refine xVi ⟨hx, hb, hml, hown, hts⟩ (kX12_isChurch l N0 G _ _ V A hM S hR hL _ hg0) (cwV 1 hts gX12_lend_X12_isChurch rfl rfl rfl (by decide +kernel) ⟨Nat.le_of_ble_eq_true rfl, Nat.le_of_ble_eq_true rfl⟩) hG hN hw hS (ci := 12) (by repeat first | assumption | exact wu_eq _ _ _ | refine wu_ne (by omega) ?_) rfl rfl hl.1 rfl (Nat.le_of_ble_eq_true rfl) dX12_lend_34 ⟨Nat.le_of_ble_eq_true rfl, Nat.le_of_ble_eq_true rfl⟩ (fun r34 w34 H locs hp34 hw hS => ?_)
          obtain ⟨rfl, rfl⟩ := hp34
          first | refine xifb_eq (tgt := 43) hx hb dX12_lend_37 (by decide) (fun c37 => ?_) (fun c37 => ?_) | refine xif_eq (tgt := 43) hx hb dX12_lend_37 (by decide) (by omega) (fun c37 => ?_) (fun c37 => ?_) | refine lv_if_eq (tgt := 43) hx hb dX12_lend_37 (by decide) (fun c37 => ?_) (fun c37 => ?_)
          · skip
            refine xaload_n hx hb dX12_lend_43 hl rfl ?_
            refine xgetM hx hb hts hiX12 hown hG hw (by repeat first | assumption | exact wu_eq _ _ _ | refine wu_ne (by omega) ?_) 6 (by decide) hlnk0 (by repeat first | assumption | exact vu_eq _ _ _ | refine vu_ne (by decide) ?_) dX12_lend_44 ?_
            refine xiload_n hx hb dX12_lend_47 hl rfl ?_
            refine xiald hx hb hG hw (by repeat first | assumption | exact wu_eq _ _ _ | refine wu_ne (by omega) ?_) (by omega) (by omega) dX12_lend_48 ?_
            refine xtop hlo ?_
            refine lv_bipush (v := nI 40) hx hb dX12_lend_49 (by decide) ?_
            first | refine xcmp_ne (tgt := 57) hx hb dX12_lend_51 (by decide) (by omega) (by omega) (fun c51 => ?_) (fun c51 => ?_) | refine lv_icmp_ne (tgt := 57) hx hb dX12_lend_51 (by decide) (fun c51 => ?_) (fun c51 => ?_)
            · skip
              refine xaload_n hx hb dX12_lend_57 hl rfl ?_
              refine xgetM hx hb hts hiX12 hown hG hw (by repeat first | assumption | exact wu_eq _ _ _ | refine wu_ne (by omega) ?_) 6 (by decide) hlnk0 (by repeat first | assumption | exact vu_eq _ _ _ | refine vu_ne (by decide) ?_) dX12_lend_58 ?_
              refine xiload_n hx hb dX12_lend_61 hl rfl ?_
              first | refine lv_dup2_11 hx hb dX12_lend_62 rfl rfl ?_ | refine lv_dup2_2 hx hb dX12_lend_62 rfl ?_
              refine xiald hx hb hG hw (by repeat first | assumption | exact wu_eq _ _ _ | refine wu_ne (by omega) ?_) (by omega) (by omega) dX12_lend_63 ?_
              refine xtop hlo ?_
              refine lv_iconst (v := nI 1) hx hb dX12_lend_64 (by decide) ?_
              first | refine xadd hx hb dX12_lend_65 ?_ | refine lv_iadd hx hb dX12_lend_65 ?_
              refine xtop (y := nI (sp S i).length) (congrArg nI (by omega)) ?_
              refine xiast hx hb hG hw hS (by repeat first | assumption | exact wu_eq _ _ _ | refine wu_ne (by omega) ?_) (by omega) (by omega) dX12_lend_66 (fun H locs hzz hw hS => ?_)
              refine xaload_n hx hb dX12_lend_67 hl rfl ?_
              refine xgetM hx hb hts hiX12 hown hG hw (by repeat first | assumption | exact wu_eq _ _ _ | refine wu_ne (by omega) ?_) 5 (by decide) hlnk1 (by repeat first | assumption | exact vu_eq _ _ _ | refine vu_ne (by decide) ?_) dX12_lend_68 ?_
              refine lv_bipush (v := nI 41) hx hb dX12_lend_71 (by decide) ?_
              refine xiload_n hx hb dX12_lend_73 hl rfl ?_
              first | refine xmul hx hb dX12_lend_74 ?_ | refine lv_imul hx hb dX12_lend_74 ?_
              refine xaload_n hx hb dX12_lend_75 hl rfl ?_
              refine xgetM hx hb hts hiX12 hown hG hw (by repeat first | assumption | exact wu_eq _ _ _ | refine wu_ne (by omega) ?_) 6 (by decide) hlnk0 (by repeat first | assumption | exact vu_eq _ _ _ | refine vu_ne (by decide) ?_) dX12_lend_76 ?_
              refine xiload_n hx hb dX12_lend_79 hl rfl ?_
              refine xiald hx hb hG hw (by repeat first | assumption | exact wu_eq _ _ _ | refine wu_ne (by omega) ?_) (by omega) (by omega) dX12_lend_80 ?_
              refine xtop (upd_at _ _ _) ?_
              first | refine xadd hx hb dX12_lend_81 ?_ | refine lv_iadd hx hb dX12_lend_81 ?_
              refine xiload_n hx hb dX12_lend_82 hl rfl ?_
              refine xiast hx hb hG hw hS (by repeat first | assumption | exact wu_eq _ _ _ | refine wu_ne (by omega) ?_) (by omega) (by omega) dX12_lend_83 (fun H locs hzz hw hS => ?_)
              have hM2 := (hM.a4 (upd (A 4) i (nI (sp S i).length))).a3 (upd (A 3) (41 * i + (sp S i).length) (nI k))
              have hR2 := rm_lend (k := k) hR hL hi (show (sp S i).length ≤ 40 by omega)
              have hL2 := wb_lend (k := k) hL (show (sp S i).length ≤ 40 by omega) (i := i)
              have hsp2 : sp (lendS S i k) i = k :: sp S i := vup_eq _ _ _
              have hyes := lend_yes hi hi31 hk hk31 ⟨c25, c37⟩ (show ¬ 41 ≤ (sp S i).length by omega)
              refine xaload_n hx hb dX12_lend_84 hl rfl ?_
              refine xiload_n hx hb dX12_lend_85 hl rfl ?_
              refine xVi ⟨hx, hb, hml, hown, hts⟩ (kX12_boundNow l N0 G _ _ V _ hM2 (lendS S i k) hR2 hL2 i hi (by rw [hsp2]; exact hall_cons (P := sP S) (hpa i hi) hk)) (cwV 1 hts gX12_lend_X12_boundNow rfl rfl rfl (by decide +kernel) ⟨Nat.le_of_ble_eq_true rfl, Nat.le_of_ble_eq_true rfl⟩) hG hN hw hS (ci := 12) hM2.1 rfl rfl hl.1 rfl (Nat.le_of_ble_eq_true rfl) dX12_lend_86 ⟨Nat.le_of_ble_eq_true rfl, Nat.le_of_ble_eq_true rfl⟩ (fun r86 w86 H locs hp86 hw hS => ?_)
              obtain ⟨rfl, A1, hM1, hN1, hO1⟩ := hp86
              exact xiret hx hb hr hlk hw hS dX12_lend_89 ⟨by rw [hyes, hsp2]; rfl, ⟨V, A1, hM1, by rw [hyes]; exact rm_nk hR2 hN1⟩, ((Out.rf.wu (by omega) (by omega)).wu (by omega) (by omega)).tr hO1 (Nat.le_refl _) (Nat.le_refl _)⟩
            · skip
              refine lv_bipush (v := -104) hx hb dX12_lend_54 (by decide) ?_
              exact xiret hx hb hr hlk hw hS dX12_lend_56 ⟨by rw [lend_full hi hi31 hk hk31 ⟨c25, c37⟩ (show 41 ≤ (sp S i).length by omega)], ⟨V, A, hM, by rw [lend_full hi hi31 hk hk31 ⟨c25, c37⟩ (show 41 ≤ (sp S i).length by omega)]; exact hR⟩, Out.rf⟩
          · skip
            refine lv_bipush (v := -103) hx hb dX12_lend_40 (by decide) ?_
            have hno : ¬ ((sp S i).getD 0 0 ≠ k ∧ chu (kd (sP S) ((sp S i).getD 0 0)) = false) := fun z => by first | exact z.1 c25 | exact absurd (z.2.symm.trans c37) (by decide)
            exact xiret hx hb hr hlk hw hS dX12_lend_42 ⟨by rw [lend_no hi hi31 hk hk31 hno], ⟨V, A, hM, by rw [lend_no hi hi31 hk hk31 hno]; exact hR⟩, Out.rf⟩
      · skip
        exfalso
        cases c13
  · skip
    refine xaload_n hx hb dX12_lend_0 hl rfl ?_
    refine xiload_n hx hb dX12_lend_1 hl rfl ?_
    refine xVi ⟨hx, hb, hml, hown, hts⟩ (kX12_isOne l N0 G _ _ V A hM S hR hL _) (cwV 1 hts gX12_lend_X12_isOne rfl rfl rfl (by decide +kernel) ⟨Nat.le_of_ble_eq_true rfl, Nat.le_of_ble_eq_true rfl⟩) hG hN hw hS (ci := 12) (by repeat first | assumption | exact wu_eq _ _ _ | refine wu_ne (by omega) ?_) rfl rfl hl.1 rfl (Nat.le_of_ble_eq_true rfl) dX12_lend_2 ⟨Nat.le_of_ble_eq_true rfl, Nat.le_of_ble_eq_true rfl⟩ (fun r2 w2 H locs hp2 hw hS => ?_)
    obtain ⟨rfl, rfl⟩ := hp2
    refine xtop (y := bI true) (congrArg bI (decide_eq_true (inR_nI hi (by omega)))) ?_
    first | refine xifb_eq (tgt := 16) hx hb dX12_lend_5 (by decide) (fun c5 => ?_) (fun c5 => ?_) | refine xif_eq (tgt := 16) hx hb dX12_lend_5 (by decide) (by omega) (fun c5 => ?_) (fun c5 => ?_) | refine lv_if_eq (tgt := 16) hx hb dX12_lend_5 (by decide) (fun c5 => ?_) (fun c5 => ?_)
    · skip
      exfalso
      cases c5
    · skip
      refine xaload_n hx hb dX12_lend_8 hl rfl ?_
      refine xiload_n hx hb dX12_lend_9 hl rfl ?_
      refine xVi ⟨hx, hb, hml, hown, hts⟩ (kX12_isOne l N0 G _ _ V A hM S hR hL _) (cwV 1 hts gX12_lend_X12_isOne rfl rfl rfl (by decide +kernel) ⟨Nat.le_of_ble_eq_true rfl, Nat.le_of_ble_eq_true rfl⟩) hG hN hw hS (ci := 12) (by repeat first | assumption | exact wu_eq _ _ _ | refine wu_ne (by omega) ?_) rfl rfl hl.1 rfl (Nat.le_of_ble_eq_true rfl) dX12_lend_10 ⟨Nat.le_of_ble_eq_true rfl, Nat.le_of_ble_eq_true rfl⟩ (fun r10 w10 H locs hp10 hw hS => ?_)
      obtain ⟨rfl, rfl⟩ := hp10
      refine xtop (y := bI false) (congrArg bI (decide_eq_false hy1)) ?_
      first | refine xifb_ne (tgt := 19) hx hb dX12_lend_13 (by decide) (fun c13 => ?_) (fun c13 => ?_) | refine xif_ne (tgt := 19) hx hb dX12_lend_13 (by decide) (by omega) (fun c13 => ?_) (fun c13 => ?_) | refine lv_if_ne (tgt := 19) hx hb dX12_lend_13 (by decide) (fun c13 => ?_) (fun c13 => ?_)
      · skip
        exfalso
        cases c13
      · skip
        refine lv_bipush (v := -101) hx hb dX12_lend_16 (by decide) ?_
        exact xiret hx hb hr hlk hw hS dX12_lend_18 ⟨by rw [o_lend, onR_in hi hi31, onR_out hy1], ⟨V, A, hM, by rw [o_lend, onR_in hi hi31, onR_out hy1]; exact hR⟩, Out.rf⟩
  · skip
    refine xaload_n hx hb dX12_lend_0 hl rfl ?_
    refine xiload_n hx hb dX12_lend_1 hl rfl ?_
    refine xVi ⟨hx, hb, hml, hown, hts⟩ (kX12_isOne l N0 G _ _ V A hM S hR hL _) (cwV 1 hts gX12_lend_X12_isOne rfl rfl rfl (by decide +kernel) ⟨Nat.le_of_ble_eq_true rfl, Nat.le_of_ble_eq_true rfl⟩) hG hN hw hS (ci := 12) (by repeat first | assumption | exact wu_eq _ _ _ | refine wu_ne (by omega) ?_) rfl rfl hl.1 rfl (Nat.le_of_ble_eq_true rfl) dX12_lend_2 ⟨Nat.le_of_ble_eq_true rfl, Nat.le_of_ble_eq_true rfl⟩ (fun r2 w2 H locs hp2 hw hS => ?_)
    obtain ⟨rfl, rfl⟩ := hp2
    refine xtop (y := bI false) (congrArg bI (decide_eq_false hx1)) ?_
    first | refine xifb_eq (tgt := 16) hx hb dX12_lend_5 (by decide) (fun c5 => ?_) (fun c5 => ?_) | refine xif_eq (tgt := 16) hx hb dX12_lend_5 (by decide) (by omega) (fun c5 => ?_) (fun c5 => ?_) | refine lv_if_eq (tgt := 16) hx hb dX12_lend_5 (by decide) (fun c5 => ?_) (fun c5 => ?_)
    · skip
      refine lv_bipush (v := -101) hx hb dX12_lend_16 (by decide) ?_
      exact xiret hx hb hr hlk hw hS dX12_lend_18 ⟨by rw [o_lend, onR_out hx1], ⟨V, A, hM, by rw [o_lend, onR_out hx1]; exact hR⟩, Out.rf⟩
    · skip
      exfalso
      cases c5
  · skip
    refine xaload_n hx hb dX12_lend_0 hl rfl ?_
    refine xiload_n hx hb dX12_lend_1 hl rfl ?_
    refine xVi ⟨hx, hb, hml, hown, hts⟩ (kX12_isOne l N0 G _ _ V A hM S hR hL _) (cwV 1 hts gX12_lend_X12_isOne rfl rfl rfl (by decide +kernel) ⟨Nat.le_of_ble_eq_true rfl, Nat.le_of_ble_eq_true rfl⟩) hG hN hw hS (ci := 12) (by repeat first | assumption | exact wu_eq _ _ _ | refine wu_ne (by omega) ?_) rfl rfl hl.1 rfl (Nat.le_of_ble_eq_true rfl) dX12_lend_2 ⟨Nat.le_of_ble_eq_true rfl, Nat.le_of_ble_eq_true rfl⟩ (fun r2 w2 H locs hp2 hw hS => ?_)
    obtain ⟨rfl, rfl⟩ := hp2
    refine xtop (y := bI false) (congrArg bI (decide_eq_false hx1)) ?_
    first | refine xifb_eq (tgt := 16) hx hb dX12_lend_5 (by decide) (fun c5 => ?_) (fun c5 => ?_) | refine xif_eq (tgt := 16) hx hb dX12_lend_5 (by decide) (by omega) (fun c5 => ?_) (fun c5 => ?_) | refine lv_if_eq (tgt := 16) hx hb dX12_lend_5 (by decide) (fun c5 => ?_) (fun c5 => ?_)
    · skip
      refine lv_bipush (v := -101) hx hb dX12_lend_16 (by decide) ?_
      exact xiret hx hb hr hlk hw hS dX12_lend_18 ⟨by rw [o_lend, onR_out hx1], ⟨V, A, hM, by rw [o_lend, onR_out hx1]; exact hR⟩, Out.rf⟩
    · skip
      exfalso
      cases c5
set_option maxHeartbeats 4000000 in
set_option maxRecDepth 100000 in
theorem kX12_had (l : Launch) (N0 : Nat) (G : XG) (w : Wd) (M0 : Nat) (V : Nat → Value) (A : Nat → Nat → Int32) (hM : MW G w M0 V A) (S : QS) (hR : RM S V A) (hL : WB S) (x y : Int32) : XM l yX12_had wsX12_had (rmD 3) N0 G [.ref M0, .int x, .int y] w vI (fun r w1 => v_had S x y = r ∧ w = w1) 0 0 := by
  refine XM.of (cc := cX12_had) (maxL := 3) (ret := (some .int)) (by decide) rfl (Nat.le_of_ble_eq_true rfl) ?_
  intro p e s m below meth c hx hb hr hlk hin0 hml hown hts hN hw hG hS ls hl
  have hown : s.vm.findClass RX12 = some m.cls := hown
  have hiX12 : ∀ x ∈ u_ws RX12 TX12 37, x ∈ wsX12_had := by decide +kernel
  have hlnk0 := hts (.fieldLink RX12 19 "LentQuillModel" "lentOf" "[I") (by decide +kernel)
  have hlnk1 := hts (.fieldLink RX12 16 "LentQuillModel" "handOf" "[I") (by decide +kernel)
  have hl : lh ls 3 [some (.ref M0), some (.int x), some (.int y)] := hl
  obtain ⟨hm0, ⟨hv3, hv4, hv5, hv6, hv8, hv9, hv11, hv12, hv15, hv18, hv19, hv20, hv24, hv30, hv31, hv32, hv33, hv34, hv35⟩, ha1, ha2, ha3, ha4, ha5, ha6, ha7, ha8, ha9, ha10, ha11, ha12, ha13, ha14, ha15, ha16, ha17, ha18, ha19⟩ := id hM
  obtain ⟨ht, hn, hlm, hdn, hhn, has, hpl, hkw, hRB, hpg, hkp⟩ := id hR
  obtain ⟨hn5, hl5, hkd, hsp, hd6, hdw, hh6, hg18, hgr, hIm⟩ := id hL
  rcases inR_or x (sn S) with ⟨i, hi, hi31, rfl⟩ | hx1 <;> rcases inR_or y 41 with ⟨k, hk, hk31, rfl⟩ | hy1
  · skip
    obtain ⟨hlo, hha⟩ := hRB.1 i hi
    obtain ⟨hs1, hs41⟩ := hsp i hi
    have hlo : A 4 i = nI ((sp S i).length - 1) := hlo
    refine xaload_n hx hb dX12_had_0 hl rfl ?_
    refine xiload_n hx hb dX12_had_1 hl rfl ?_
    refine xVi ⟨hx, hb, hml, hown, hts⟩ (kX12_isOne l N0 G _ _ V A hM S hR hL _) (cwV 1 hts gX12_had_X12_isOne rfl rfl rfl (by decide +kernel) ⟨Nat.le_of_ble_eq_true rfl, Nat.le_of_ble_eq_true rfl⟩) hG hN hw hS (ci := 12) (by repeat first | assumption | exact wu_eq _ _ _ | refine wu_ne (by omega) ?_) rfl rfl hl.1 rfl (Nat.le_of_ble_eq_true rfl) dX12_had_2 ⟨Nat.le_of_ble_eq_true rfl, Nat.le_of_ble_eq_true rfl⟩ (fun r2 w2 H locs hp2 hw hS => ?_)
    obtain ⟨rfl, rfl⟩ := hp2
    refine xtop (y := bI true) (congrArg bI (decide_eq_true (inR_nI hi (by omega)))) ?_
    first | refine xifb_ne (tgt := 11) hx hb dX12_had_5 (by decide) (fun c5 => ?_) (fun c5 => ?_) | refine xif_ne (tgt := 11) hx hb dX12_had_5 (by decide) (by omega) (fun c5 => ?_) (fun c5 => ?_) | refine lv_if_ne (tgt := 11) hx hb dX12_had_5 (by decide) (fun c5 => ?_) (fun c5 => ?_)
    · skip
      refine xiload_n hx hb dX12_had_11 hl rfl ?_
      refine lv_iconst (v := nI 0) hx hb dX12_had_12 (by decide) ?_
      refine lv_bipush (v := nI 40) hx hb dX12_had_13 (by decide) ?_
      refine xSi ⟨hx, hb, hml, hown, hts⟩ (kX12_within l N0 G _ _ _ _) (va_cwS 3 hts gX12_had_X12_within rfl rfl rfl (by decide +kernel) ⟨Nat.le_of_ble_eq_true rfl, Nat.le_of_ble_eq_true rfl⟩) hG hN hw hS rfl hl.1 rfl (Nat.le_of_ble_eq_true rfl) dX12_had_15 ⟨Nat.le_of_ble_eq_true rfl, Nat.le_of_ble_eq_true rfl⟩ (fun r15 w15 H locs hp15 hw hS => ?_)
      obtain ⟨rfl, rfl⟩ := hp15
      refine xtop (y := bI true) (congrArg bI (wiB_y (by omega) (by omega) (by omega))) ?_
      first | refine xifb_ne (tgt := 24) hx hb dX12_had_18 (by decide) (fun c18 => ?_) (fun c18 => ?_) | refine xif_ne (tgt := 24) hx hb dX12_had_18 (by decide) (by omega) (fun c18 => ?_) (fun c18 => ?_) | refine lv_if_ne (tgt := 24) hx hb dX12_had_18 (by decide) (fun c18 => ?_) (fun c18 => ?_)
      · skip
        refine xiload_n hx hb dX12_had_24 hl rfl ?_
        refine xaload_n hx hb dX12_had_25 hl rfl ?_
        refine xgetM hx hb hts hiX12 hown hG hw (by repeat first | assumption | exact wu_eq _ _ _ | refine wu_ne (by omega) ?_) 6 (by decide) hlnk0 (by repeat first | assumption | exact vu_eq _ _ _ | refine vu_ne (by decide) ?_) dX12_had_26 ?_
        refine xiload_n hx hb dX12_had_29 hl rfl ?_
        refine xiald hx hb hG hw (by repeat first | assumption | exact wu_eq _ _ _ | refine wu_ne (by omega) ?_) (by omega) (by omega) dX12_had_30 ?_
        refine xtop hlo ?_
        first | refine xcmp_le (tgt := 38) hx hb dX12_had_31 (by decide) (by omega) (by omega) (fun c31 => ?_) (fun c31 => ?_) | refine lv_icmp_le (tgt := 38) hx hb dX12_had_31 (by decide) (fun c31 => ?_) (fun c31 => ?_)
        · skip
          refine xaload_n hx hb dX12_had_38 hl rfl ?_
          refine xgetM hx hb hts hiX12 hown hG hw (by repeat first | assumption | exact wu_eq _ _ _ | refine wu_ne (by omega) ?_) 5 (by decide) hlnk1 (by repeat first | assumption | exact vu_eq _ _ _ | refine vu_ne (by decide) ?_) dX12_had_39 ?_
          refine lv_bipush (v := nI 41) hx hb dX12_had_42 (by decide) ?_
          refine xiload_n hx hb dX12_had_44 hl rfl ?_
          first | refine xmul hx hb dX12_had_45 ?_ | refine lv_imul hx hb dX12_had_45 ?_
          refine xaload_n hx hb dX12_had_46 hl rfl ?_
          refine xgetM hx hb hts hiX12 hown hG hw (by repeat first | assumption | exact wu_eq _ _ _ | refine wu_ne (by omega) ?_) 6 (by decide) hlnk0 (by repeat first | assumption | exact vu_eq _ _ _ | refine vu_ne (by decide) ?_) dX12_had_47 ?_
          refine xiload_n hx hb dX12_had_50 hl rfl ?_
          refine xiald hx hb hG hw (by repeat first | assumption | exact wu_eq _ _ _ | refine wu_ne (by omega) ?_) (by omega) (by omega) dX12_had_51 ?_
          refine xtop hlo ?_
          first | refine xadd hx hb dX12_had_52 ?_ | refine lv_iadd hx hb dX12_had_52 ?_
          refine xiload_n hx hb dX12_had_53 hl rfl ?_
          first | refine xsub hx hb dX12_had_54 (by omega) ?_ | refine lv_isub hx hb dX12_had_54 ?_
          refine xiald hx hb hG hw (by repeat first | assumption | exact wu_eq _ _ _ | refine wu_ne (by omega) ?_) (by omega) (by omega) dX12_had_55 ?_
          first | refine xtop (had_v (h := sp S i) hha (show 41 * i + ((sp S i).length - 1) - k = 41 * i + ((sp S i).length - 1 - k) by omega) (by omega)) ?_ | skip
          exact xiret hx hb hr hlk hw hS dX12_had_56 ⟨by rw [v_had, onR_in hi hi31, onR_in hk hk31]; first | exact if_pos (by omega) | exact if_neg (by omega), rfl⟩
        · skip
          refine lv_iconst (v := -1) hx hb dX12_had_34 (by decide) ?_
          refine lv_goto (tgt := 56) hx hb dX12_had_35 (by decide) ?_
          first | refine xtop (had_v (h := sp S i) hha (show 41 * i + ((sp S i).length - 1) - k = 41 * i + ((sp S i).length - 1 - k) by omega) (by omega)) ?_ | skip
          exact xiret hx hb hr hlk hw hS dX12_had_56 ⟨by rw [v_had, onR_in hi hi31, onR_in hk hk31]; first | exact if_pos (by omega) | exact if_neg (by omega), rfl⟩
      · skip
        exfalso
        cases c18
    · skip
      exfalso
      cases c5
  · skip
    refine xaload_n hx hb dX12_had_0 hl rfl ?_
    refine xiload_n hx hb dX12_had_1 hl rfl ?_
    refine xVi ⟨hx, hb, hml, hown, hts⟩ (kX12_isOne l N0 G _ _ V A hM S hR hL _) (cwV 1 hts gX12_had_X12_isOne rfl rfl rfl (by decide +kernel) ⟨Nat.le_of_ble_eq_true rfl, Nat.le_of_ble_eq_true rfl⟩) hG hN hw hS (ci := 12) (by repeat first | assumption | exact wu_eq _ _ _ | refine wu_ne (by omega) ?_) rfl rfl hl.1 rfl (Nat.le_of_ble_eq_true rfl) dX12_had_2 ⟨Nat.le_of_ble_eq_true rfl, Nat.le_of_ble_eq_true rfl⟩ (fun r2 w2 H locs hp2 hw hS => ?_)
    obtain ⟨rfl, rfl⟩ := hp2
    refine xtop (y := bI true) (congrArg bI (decide_eq_true (inR_nI hi (by omega)))) ?_
    first | refine xifb_ne (tgt := 11) hx hb dX12_had_5 (by decide) (fun c5 => ?_) (fun c5 => ?_) | refine xif_ne (tgt := 11) hx hb dX12_had_5 (by decide) (by omega) (fun c5 => ?_) (fun c5 => ?_) | refine lv_if_ne (tgt := 11) hx hb dX12_had_5 (by decide) (fun c5 => ?_) (fun c5 => ?_)
    · skip
      refine xiload_n hx hb dX12_had_11 hl rfl ?_
      refine lv_iconst (v := nI 0) hx hb dX12_had_12 (by decide) ?_
      refine lv_bipush (v := nI 40) hx hb dX12_had_13 (by decide) ?_
      refine xSi ⟨hx, hb, hml, hown, hts⟩ (kX12_within l N0 G _ _ _ _) (va_cwS 3 hts gX12_had_X12_within rfl rfl rfl (by decide +kernel) ⟨Nat.le_of_ble_eq_true rfl, Nat.le_of_ble_eq_true rfl⟩) hG hN hw hS rfl hl.1 rfl (Nat.le_of_ble_eq_true rfl) dX12_had_15 ⟨Nat.le_of_ble_eq_true rfl, Nat.le_of_ble_eq_true rfl⟩ (fun r15 w15 H locs hp15 hw hS => ?_)
      obtain ⟨rfl, rfl⟩ := hp15
      refine xtop (y := bI false) (congrArg bI (wiB_n hy1 (by omega))) ?_
      first | refine xifb_ne (tgt := 24) hx hb dX12_had_18 (by decide) (fun c18 => ?_) (fun c18 => ?_) | refine xif_ne (tgt := 24) hx hb dX12_had_18 (by decide) (by omega) (fun c18 => ?_) (fun c18 => ?_) | refine lv_if_ne (tgt := 24) hx hb dX12_had_18 (by decide) (fun c18 => ?_) (fun c18 => ?_)
      · skip
        exfalso
        cases c18
      · skip
        refine lv_bipush (v := -102) hx hb dX12_had_21 (by decide) ?_
        exact xiret hx hb hr hlk hw hS dX12_had_23 ⟨by rw [v_had, onR_in hi hi31, onR_out hy1], rfl⟩
    · skip
      exfalso
      cases c5
  · skip
    refine xaload_n hx hb dX12_had_0 hl rfl ?_
    refine xiload_n hx hb dX12_had_1 hl rfl ?_
    refine xVi ⟨hx, hb, hml, hown, hts⟩ (kX12_isOne l N0 G _ _ V A hM S hR hL _) (cwV 1 hts gX12_had_X12_isOne rfl rfl rfl (by decide +kernel) ⟨Nat.le_of_ble_eq_true rfl, Nat.le_of_ble_eq_true rfl⟩) hG hN hw hS (ci := 12) (by repeat first | assumption | exact wu_eq _ _ _ | refine wu_ne (by omega) ?_) rfl rfl hl.1 rfl (Nat.le_of_ble_eq_true rfl) dX12_had_2 ⟨Nat.le_of_ble_eq_true rfl, Nat.le_of_ble_eq_true rfl⟩ (fun r2 w2 H locs hp2 hw hS => ?_)
    obtain ⟨rfl, rfl⟩ := hp2
    refine xtop (y := bI false) (congrArg bI (decide_eq_false hx1)) ?_
    first | refine xifb_ne (tgt := 11) hx hb dX12_had_5 (by decide) (fun c5 => ?_) (fun c5 => ?_) | refine xif_ne (tgt := 11) hx hb dX12_had_5 (by decide) (by omega) (fun c5 => ?_) (fun c5 => ?_) | refine lv_if_ne (tgt := 11) hx hb dX12_had_5 (by decide) (fun c5 => ?_) (fun c5 => ?_)
    · skip
      exfalso
      cases c5
    · skip
      refine lv_bipush (v := -101) hx hb dX12_had_8 (by decide) ?_
      exact xiret hx hb hr hlk hw hS dX12_had_10 ⟨by rw [v_had, onR_out hx1], rfl⟩
  · skip
    refine xaload_n hx hb dX12_had_0 hl rfl ?_
    refine xiload_n hx hb dX12_had_1 hl rfl ?_
    refine xVi ⟨hx, hb, hml, hown, hts⟩ (kX12_isOne l N0 G _ _ V A hM S hR hL _) (cwV 1 hts gX12_had_X12_isOne rfl rfl rfl (by decide +kernel) ⟨Nat.le_of_ble_eq_true rfl, Nat.le_of_ble_eq_true rfl⟩) hG hN hw hS (ci := 12) (by repeat first | assumption | exact wu_eq _ _ _ | refine wu_ne (by omega) ?_) rfl rfl hl.1 rfl (Nat.le_of_ble_eq_true rfl) dX12_had_2 ⟨Nat.le_of_ble_eq_true rfl, Nat.le_of_ble_eq_true rfl⟩ (fun r2 w2 H locs hp2 hw hS => ?_)
    obtain ⟨rfl, rfl⟩ := hp2
    refine xtop (y := bI false) (congrArg bI (decide_eq_false hx1)) ?_
    first | refine xifb_ne (tgt := 11) hx hb dX12_had_5 (by decide) (fun c5 => ?_) (fun c5 => ?_) | refine xif_ne (tgt := 11) hx hb dX12_had_5 (by decide) (by omega) (fun c5 => ?_) (fun c5 => ?_) | refine lv_if_ne (tgt := 11) hx hb dX12_had_5 (by decide) (fun c5 => ?_) (fun c5 => ?_)
    · skip
      exfalso
      cases c5
    · skip
      refine lv_bipush (v := -101) hx hb dX12_had_8 (by decide) ?_
      exact xiret hx hb hr hlk hw hS dX12_had_10 ⟨by rw [v_had, onR_out hx1], rfl⟩
