theorem lN_mask (a : Nat) : lN a &&& lN 2147483647 = lN (a % 2147483648) := by
  unfold lN
  apply Int64.toBitVec_inj.mp
  rw [Int64.toBitVec_and]
  apply BitVec.eq_of_toNat_eq
  rw [BitVec.toNat_and]
  show (BitVec.ofNat 64 a).toNat &&& (BitVec.ofNat 64 2147483647).toNat = (BitVec.ofNat 64 (a % 2147483648)).toNat
  simp only [BitVec.toNat_ofNat]
  have h := Nat.and_two_pow_sub_one_eq_mod (a % 2 ^ 64) 31
  have e : 2147483647 % 2 ^ 64 = 2 ^ 31 - 1 := by decide
  rw [e, h]
  omega
def As (A A1 : Nat → Nat → Int32) : Prop := ∀ k, k ≠ 10 → k ≠ 11 → k ≠ 12 → A1 k = A k
theorem As.trN {A A1 A2 : Nat → Nat → Int32} {p : Nat} (h : As A A1) (h2 : Nk A1 A2 p) : As A A2 := fun k a b c => (h2.1 k a b c).trans (h k a b c)
theorem rm_as {S : QS} {V : Nat → Value} {A A1 : Nat → Nat → Int32} (hR : RM S V A) (h : As A A1) : RM S V A1 := rm_h hR (fun _ _ _ _ => rfl) (fun k a b c _ => h k a b c)
def Vs (V V1 : Nat → Value) : Prop := ∀ k, k ≠ 25 → V1 k = V k
theorem Vs.rf {V : Nat → Value} : Vs V V := fun _ _ => rfl
theorem Vs.s25 {V V1 : Nat → Value} {x : Value} (h : Vs V V1) : Vs V (vu V1 25 x) := fun k a => vu_ne a (h k a)
theorem rm_vs {S : QS} {V V1 : Nat → Value} {A : Nat → Nat → Int32} (hR : RM S V A) (h : Vs V V1) : RM S V1 A := by
  obtain ⟨ht, hn, hlm, hdn, hhn, has, hpl, hkw, hRB, hpg, b, kt, h26, h27, hkt, hk1, hk2⟩ := hR
  refine ⟨(h 0 (by omega)).trans ht, (h 1 (by omega)).trans hn, (h 2 (by omega)).trans hlm, (h 7 (by omega)).trans hdn, (h 10 (by omega)).trans hhn, (h 13 (by omega)).trans has, (h 14 (by omega)).trans hpl, hkw, hRB, hpg, b, kt, (h 26 (by omega)).trans h26, (h 27 (by omega)).trans h27, hkt, hk1, fun B hB => ?_⟩
  obtain ⟨q1, q2, q3, q4, q5⟩ := hk2 B hB
  exact ⟨q1, q2, (h 28 (by omega)).trans q3, (h 29 (by omega)).trans q4, q5⟩
theorem Tl.nk {A A1 : Nat → Nat → Int32} {p q : Nat} {L : List Nat} {g : Int32} (h : Tl A q L g) (hN : Nk A A1 p) (hq : q ≠ p) (h5 : L.length ≤ 5) : Tl A1 q L g := by
  obtain ⟨a, b, c⟩ := hN.2 q hq
  exact ⟨a.trans h.1, b.trans h.2.1, fun j hj => (c j (by omega)).trans (h.2.2 j hj)⟩
theorem tl_all {A1 A2 : Nat → Nat → Int32} {f : Nat → List Nat} {g : Nat → Int32} {k : Nat} (hT : ∀ j, j < k → Tl A1 j (dd (f j)) (g j)) (hN : Nk A1 A2 k) (h2 : Tl A2 k (dd (f k)) (g k)) (h5 : ∀ j, j < k → (dd (f j)).length ≤ 5) : ∀ j, j < k + 1 → Tl A2 j (dd (f j)) (g j) := fun j hj => by
  rcases (show j < k ∨ j = k by omega) with q | q
  · exact (hT j q).nk hN (by omega) (h5 j q)
  · rw [q]; exact h2
def TT (A : Nat → Nat → Int32) (h : List Nat) (j : Nat) : Prop := Tl A j (dd h) (nI (h.length - 1)) ∧ 1 ≤ h.length ∧ h.length ≤ 41
theorem ft_step {A1 A5 : Nat → Nat → Int32} {g : Nat → List Nat} {p n : Nat} {h : List Nat} (hT : ∀ j, j < n → TT A1 (g j) j) (hN : Nk A1 A5 p) (h5 : TT A5 h p) (hl : ∀ j, j < n → (dd (g j)).length ≤ 5) : ∀ j, j < n → TT A5 (va_up g p h j) j := fun j hj => by
  by_cases q : j = p
  · rw [q, vup_eq]; exact h5
  · rw [vup_ne _ _ q]; exact ⟨(hT j hj).1.nk hN q (hl j hj), (hT j hj).2⟩
theorem tt_lent {A1 A2 : Nat → Nat → Int32} {h : List Nat} {p t : Nat} (hT : TT A1 h p) (h2 : Tl A2 p (t :: (dd h).filter (fun y => decide (y ≠ t))) (nI (h.length - 1 + 1))) (h40 : h.length ≤ 40) : TT A2 (t :: h) p := by
  have h1 := hT.2.1
  refine ⟨?_, by simp, by simp; omega⟩
  rw [show (t :: h).length - 1 = h.length - 1 + 1 by simp; omega]
  exact h2
set_option maxHeartbeats 4000000 in
set_option maxRecDepth 100000 in
theorem kX12_draw (l : Launch) (N0 : Nat) (G : XG) (w : Wd) (M0 : Nat) (V : Nat → Value) (A : Nat → Nat → Int32) (hM : MW G w M0 V A) (q d : Nat) (hq : V 25 = .long (lN q)) (hq31 : q < 2147483648) (hd1 : 1 ≤ d) (hd9 : d ≤ 9) : XM l yX12_draw wsX12_draw (rmD 1) N0 G [.ref M0, .int (nI d)] w vI (fun r w1 => nI (drw (nxs q) d) = r ∧ wu w M0 (eO 12 (mfl (vu V 25 (.long (lN (nxs q)))))) = w1) 0 0 := by
  refine XM.of (cc := cX12_draw) (maxL := 2) (ret := (some .int)) (by decide) rfl (Nat.le_of_ble_eq_true rfl) ?_
  intro p e s m below meth c hx hb hr hlk hin0 hml hown hts hN hw hG hS ls hl
  have hown : s.vm.findClass RX12 = some m.cls := hown
  have hiX12 : ∀ x ∈ u_ws RX12 TX12 37, x ∈ wsX12_draw := by decide +kernel
  have hlnk0 := hts (.constantLong RX12 209 (1103515245)) (by decide +kernel)
  have hlnk1 := hts (.fieldLink RX12 211 "LentQuillModel" "seedNow" "J") (by decide +kernel)
  have hlnk2 := hts (.constantLong RX12 215 (12345)) (by decide +kernel)
  have hlnk3 := hts (.constantLong RX12 217 (2147483647)) (by decide +kernel)
  have hlnk4 := hts (.constantLong RX12 219 (65536)) (by decide +kernel)
  have hl : lh ls 2 [some (.ref M0), some (.int (nI d))] := hl
  obtain ⟨hm0, ⟨hv3, hv4, hv5, hv6, hv8, hv9, hv11, hv12, hv15, hv18, hv19, hv20, hv24, hv30, hv31, hv32, hv33, hv34, hv35⟩, ha1, ha2, ha3, ha4, ha5, ha6, ha7, ha8, ha9, ha10, ha11, ha12, ha13, ha14, ha15, ha16, ha17, ha18, ha19⟩ := id hM
  have hnx := nxs_lt q
  refine xaload_n hx hb dX12_draw_0 hl rfl ?_
  refine lv_ldc2 hx hb hown hlnk0 dX12_draw_1 ?_
  refine xtopl (y := lN 1103515245) (by decide) ?_
  refine xaload_n hx hb dX12_draw_4 hl rfl ?_
  refine xgetM hx hb hts hiX12 hown hG hw (by repeat first | assumption | exact wu_eq _ _ _ | refine wu_ne (by omega) ?_) 25 (by decide) hlnk1 (by repeat first | assumption | exact vu_eq _ _ _ | refine vu_ne (by decide) ?_) dX12_draw_5 ?_
  first | refine xlmul hx hb dX12_draw_8 ?_ | refine lv_lmul hx hb dX12_draw_8 ?_
  refine lv_ldc2 hx hb hown hlnk2 dX12_draw_9 ?_
  refine xtopl (y := lN 12345) (by decide) ?_
  first | refine xladd hx hb dX12_draw_12 ?_ | refine lv_ladd hx hb dX12_draw_12 ?_
  refine lv_ldc2 hx hb hown hlnk3 dX12_draw_13 ?_
  refine xtopl (y := lN 2147483647) (by decide) ?_
  refine lv_land hx hb dX12_draw_16 ?_
  refine xtopl (y := lN (nxs q)) (lN_mask _) ?_
  refine xputM (ty := .long) hx hb hts hiX12 hown hG hw hS (by repeat first | assumption | exact wu_eq _ _ _ | refine wu_ne (by omega) ?_) 25 (by decide) hlnk1 rfl (by decide +kernel) rfl rfl dX12_draw_17 (fun H locs hzz hw hS => ?_)
  refine xaload_n hx hb dX12_draw_20 hl rfl ?_
  refine xgetM hx hb hts hiX12 hown hG hw (by repeat first | assumption | exact wu_eq _ _ _ | refine wu_ne (by omega) ?_) 25 (by decide) hlnk1 (by repeat first | assumption | exact vu_eq _ _ _ | refine vu_ne (by decide) ?_) dX12_draw_21 ?_
  refine lv_ldc2 hx hb hown hlnk4 dX12_draw_24 ?_
  refine xtopl (y := lN 65536) (by decide) ?_
  refine xldiv hx hb dX12_draw_27 (by omega) (by omega) (by omega) ?_
  refine xiload_n hx hb dX12_draw_28 hl rfl ?_
  first | refine xi2l hx hb dX12_draw_29 (by omega) ?_ | refine lv_i2l hx hb dX12_draw_29 rfl ?_
  refine xlrem hx hb dX12_draw_30 (by omega) (by omega) (by omega) ?_
  first | refine xl2i hx hb dX12_draw_31 ?_ | refine lv_l2i hx hb dX12_draw_31 rfl ?_
  exact xiret hx hb hr hlk hw hS dX12_draw_32 ⟨rfl, rfl⟩
set_option maxHeartbeats 4000000 in
set_option maxRecDepth 100000 in
theorem kX12_fairsNow (l : Launch) (N0 : Nat) (G : XG) (w : Wd) (M0 : Nat) (V : Nat → Value) (A : Nat → Nat → Int32) (hM : MW G w M0 V A) (S : QS) (hR : RM S V A) (hL : WB S) (hpa : ∀ i, i < sn S → ∀ x ∈ sp S i, x < sn S) (hn0 : 0 < sn S) (t d z : Nat) (ht60 : t ≤ 60) (hd31 : d < 2 ^ 31) (hz3 : z < 3) : XM l yX12_fairsNow wsX12_fairsNow (rmD 5) N0 G [.ref M0, .int (nI t), .int (nI d), .int (nI z)] w vI (fun r w1 => fairV S t d z = r ∧ (∃ V1 A1, MW G w1 M0 V1 A1 ∧ RM (S) V1 A1) ∧ Out w w1 M0 (M0 + 20)) 0 0 := by
  refine XM.of (cc := cX12_fairsNow) (maxL := 11) (ret := (some .int)) (by decide) rfl (Nat.le_of_ble_eq_true rfl) ?_
  intro p e s m below meth c hx hb hr hlk hin0 hml hown hts hN hw hG hS ls hl
  have hown : s.vm.findClass RX12 = some m.cls := hown
  have hiX12 : ∀ x ∈ u_ws RX12 TX12 37, x ∈ wsX12_fairsNow := by decide +kernel
  have hlnk0 := hts (.fieldLink RX12 94 "LentQuillModel" "people" "I") (by decide +kernel)
  have hlnk1 := hts (.fieldLink RX12 211 "LentQuillModel" "seedNow" "J") (by decide +kernel)
  have hl : lh ls 11 [some (.ref M0), some (.int (nI t)), some (.int (nI d)), some (.int (nI z)), none, none, none, none, none, none, none] := hl
  obtain ⟨hm0, ⟨hv3, hv4, hv5, hv6, hv8, hv9, hv11, hv12, hv15, hv18, hv19, hv20, hv24, hv30, hv31, hv32, hv33, hv34, hv35⟩, ha1, ha2, ha3, ha4, ha5, ha6, ha7, ha8, ha9, ha10, ha11, ha12, ha13, ha14, ha15, ha16, ha17, ha18, ha19⟩ := id hM
  obtain ⟨ht, hn, hlm, hdn, hhn, has, hpl, hkw, hRB, hpg, hkp⟩ := id hR
  obtain ⟨hn5, hl5, hkd, hsp, hd6, hdw, hh6, hg18, hgr, hIm⟩ := id hL
  refine lv_iconst (v := nI 0) hx hb dX12_fairsNow_0 (by decide) ?_
  refine xistore hx hb dX12_fairsNow_1 hl (by decide) rfl (fun ls hl => ?_)
  have loop3 : ∀ (nf : Nat) (k : Nat) (A1 : Nat → Nat → Int32) (w1 : Wd) (H : Heap) (locs : List Loc) (ls : Array Slot), sn S - k < nf → (k ≤ sn S) → (As A A1) → (MW G w1 M0 V A1) → (∀ j, j < k → Tl A1 j (dd (sp S j)) (nI ((sp S j).length - 1))) → (Out w w1 M0 (M0 + 20)) → PW N0 G w1 H → va_S (fun q => N0 ≤ q) s.heap H locs → lh ls 11 [some (.ref M0), some (.int (nI t)), some (.int (nI d)), some (.int (nI z)), some (.int (nI k)), none, none, none, none, none, none] → W p l e (rmD 5) s m ([.ref M0, .int (nI t), .int (nI d), .int (nI z)] : List Value).toArray below meth c H locs 0 0 (MQ below (XQ N0 G vI (fun r w1 => fairV S t d z = r ∧ (∃ V1 A1, MW G w1 M0 V1 A1 ∧ RM (S) V1 A1) ∧ Out w w1 M0 (M0 + 20))) ([.ref M0, .int (nI t), .int (nI d), .int (nI z)] : List Value).toArray s 0 0 (fun q => N0 ≤ q)) (F0 m 3 ls []) := by
    intro nf
    induction nf with
    | zero => intros; omega
    | succ nf ih3 =>
      intro k A1 w1 H locs ls hnf hk hA1 hM1 hT hO1 hw hS hl
      obtain ⟨hm0z, ⟨hv3z, hv4z, hv5z, hv6z, hv8z, hv9z, hv11z, hv12z, hv15z, hv18z, hv19z, hv20z, hv24z, hv30z, hv31z, hv32z, hv33z, hv34z, hv35z⟩, ha1z, ha2z, ha3z, ha4z, ha5z, ha6z, ha7z, ha8z, ha9z, ha10z, ha11z, ha12z, ha13z, ha14z, ha15z, ha16z, ha17z, ha18z, ha19z⟩ := id hM1
      have hR1 := rm_as hR hA1
      refine xiload hx hb dX12_fairsNow_3 hl rfl ?_
      refine xaload_n hx hb dX12_fairsNow_5 hl rfl ?_
      refine xgetM hx hb hts hiX12 hown hG hw (by repeat first | assumption | exact wu_eq _ _ _ | refine wu_ne (by omega) ?_) 1 (by decide) hlnk0 (by repeat first | assumption | exact vu_eq _ _ _ | refine vu_ne (by decide) ?_) dX12_fairsNow_6 ?_
      first | refine xcmp_ge (tgt := 24) hx hb dX12_fairsNow_9 (by decide) (by omega) (by omega) (fun c9 => ?_) (fun c9 => ?_) | refine lv_icmp_ge (tgt := 24) hx hb dX12_fairsNow_9 (by decide) (fun c9 => ?_) (fun c9 => ?_)
      · skip
        refine xaload_n hx hb dX12_fairsNow_24 hl rfl ?_
        refine xiload_n hx hb dX12_fairsNow_25 hl rfl ?_
        first | refine xi2l hx hb dX12_fairsNow_26 (by omega) ?_ | refine lv_i2l hx hb dX12_fairsNow_26 rfl ?_
        refine xputM (ty := .long) hx hb hts hiX12 hown hG hw hS (by repeat first | assumption | exact wu_eq _ _ _ | refine wu_ne (by omega) ?_) 25 (by decide) hlnk1 rfl (by decide +kernel) rfl rfl dX12_fairsNow_27 (fun H locs hzz hw hS => ?_)
        refine lv_iconst (v := nI 0) hx hb dX12_fairsNow_30 (by decide) ?_
        refine xistore hx hb dX12_fairsNow_31 hl (by decide) rfl (fun ls hl => ?_)
        refine lv_iconst (v := nI 0) hx hb dX12_fairsNow_33 (by decide) ?_
        refine xistore hx hb dX12_fairsNow_34 hl (by decide) rfl (fun ls hl => ?_)
        refine lv_iconst (v := nI 0) hx hb dX12_fairsNow_36 (by decide) ?_
        refine xistore hx hb dX12_fairsNow_37 hl (by decide) rfl (fun ls hl => ?_)
        have loop39 : ∀ (nf : Nat) (k : Nat) (V1 : Nat → Value) (A1 : Nat → Nat → Int32) (w1 : Wd) (u7 : Option Value) (u8 : Option Value) (u9 : Option Value) (u10 : Option Value) (H : Heap) (locs : List Loc) (ls : Array Slot), t - k < nf → (k ≤ t) → (Vs V V1) → (V1 25 = .long (lN (fairF S k d).1)) → ((fairF S k d).1 < 2147483648) → (As A A1) → (MW G w1 M0 V1 A1) → (∀ j, j < sn S → TT A1 ((fairF S k d).2.1 j) j) → (Out w w1 M0 (M0 + 20)) → PW N0 G w1 H → va_S (fun q => N0 ≤ q) s.heap H locs → lh ls 11 [some (.ref M0), some (.int (nI t)), some (.int (nI d)), some (.int (nI z)), some (.int (nI (fairF S k d).2.2.1)), some (.int (nI (fairF S k d).2.2.2)), some (.int (nI k)), u7, u8, u9, u10] → W p l e (rmD 5) s m ([.ref M0, .int (nI t), .int (nI d), .int (nI z)] : List Value).toArray below meth c H locs 0 0 (MQ below (XQ N0 G vI (fun r w1 => fairV S t d z = r ∧ (∃ V1 A1, MW G w1 M0 V1 A1 ∧ RM (S) V1 A1) ∧ Out w w1 M0 (M0 + 20))) ([.ref M0, .int (nI t), .int (nI d), .int (nI z)] : List Value).toArray s 0 0 (fun q => N0 ≤ q)) (F0 m 39 ls []) := by
          intro nf
          induction nf with
          | zero => intros; omega
          | succ nf ih39 =>
            intro k V1 A1 w1 u7 u8 u9 u10 H locs ls hnf hk hV1 h25 hs hA1 hM1 hT hO1 hw hS hl
            have hst : fairF S (k + 1) d = fstep (sP S) (sL S) (fairF S k d) := rfl
            have hFall : ∀ i, i < sn S → ∀ x ∈ (fairF S k d).2.1 i, x < sn S := fgo_all (P := sP S) (lim := sL S) (F := (d, (sB S).1, 0, 0)) hn0 hpa k
            have hfv : ∀ q, fairV S k d q = (if q = 0 then nI (fairF S k d).2.2.1 else if q = 1 then nI (fairF S k d).2.2.2 else nI (fairF S k d).1) := fun _ => rfl
            obtain ⟨F, hFe⟩ : ∃ F, F = fairF S k d := ⟨_, rfl⟩
            rw [← hFe] at h25 hs hT hl hst hFall
            simp only [← hFe] at hfv
            obtain ⟨hm0z, ⟨hv3z, hv4z, hv5z, hv6z, hv8z, hv9z, hv11z, hv12z, hv15z, hv18z, hv19z, hv20z, hv24z, hv30z, hv31z, hv32z, hv33z, hv34z, hv35z⟩, ha1z, ha2z, ha3z, ha4z, ha5z, ha6z, ha7z, ha8z, ha9z, ha10z, ha11z, ha12z, ha13z, ha14z, ha15z, ha16z, ha17z, ha18z, ha19z⟩ := id hM1
            have h1n : V1 1 = .int (nI (sn S)) := (hV1 1 (by decide)).trans hn
            have hi0 : fPen (sP S) F < sn S := drw_lt hn0
            have hj0 : fTo (sP S) F < sn S := drw_lt hn0
            have hq9 : drw (nxs (nxs (nxs F.1))) 9 < 9 := drw_lt (by omega)
            have hTi := hT _ hi0
            have hFi := hFall _ hi0
            refine xiload hx hb dX12_fairsNow_39 hl rfl ?_
            refine xiload_n hx hb dX12_fairsNow_41 hl rfl ?_
            first | refine xcmp_ge (tgt := 152) hx hb dX12_fairsNow_42 (by decide) (by omega) (by omega) (fun c42 => ?_) (fun c42 => ?_) | refine lv_icmp_ge (tgt := 152) hx hb dX12_fairsNow_42 (by decide) (fun c42 => ?_) (fun c42 => ?_)
            · skip
              refine xiload_n hx hb dX12_fairsNow_152 hl rfl ?_
              first | refine xifb_ne (tgt := 161) hx hb dX12_fairsNow_153 (by decide) (fun c153 => ?_) (fun c153 => ?_) | refine xif_ne (tgt := 161) hx hb dX12_fairsNow_153 (by decide) (by omega) (fun c153 => ?_) (fun c153 => ?_) | refine lv_if_ne (tgt := 161) hx hb dX12_fairsNow_153 (by decide) (fun c153 => ?_) (fun c153 => ?_)
              · skip
                refine xiload_n hx hb dX12_fairsNow_161 hl rfl ?_
                refine lv_iconst (v := nI 1) hx hb dX12_fairsNow_162 (by decide) ?_
                first | refine xcmp_ne (tgt := 171) hx hb dX12_fairsNow_163 (by decide) (by omega) (by omega) (fun c163 => ?_) (fun c163 => ?_) | refine lv_icmp_ne (tgt := 171) hx hb dX12_fairsNow_163 (by decide) (fun c163 => ?_) (fun c163 => ?_)
                · skip
                  refine xaload_n hx hb dX12_fairsNow_171 hl rfl ?_
                  refine xgetM hx hb hts hiX12 hown hG hw (by repeat first | assumption | exact wu_eq _ _ _ | refine wu_ne (by omega) ?_) 25 (by decide) hlnk1 (by repeat first | assumption | exact vu_eq _ _ _ | refine vu_ne (by decide) ?_) dX12_fairsNow_172 ?_
                  first | refine xl2i hx hb dX12_fairsNow_175 ?_ | refine lv_l2i hx hb dX12_fairsNow_175 rfl ?_
                  exact xiret hx hb hr hlk hw hS dX12_fairsNow_176 ⟨by rw [show t = k by omega, hfv]; first | rw [if_pos c153] | rw [if_neg c153, if_pos c163] | rw [if_neg c153, if_neg c163], ⟨V1, A1, hM1, rm_vs (rm_as hR hA1) hV1⟩, hO1⟩
                · skip
                  refine xiload hx hb dX12_fairsNow_166 hl rfl ?_
                  refine lv_goto (tgt := 176) hx hb dX12_fairsNow_168 (by decide) ?_
                  exact xiret hx hb hr hlk hw hS dX12_fairsNow_176 ⟨by rw [show t = k by omega, hfv]; first | rw [if_pos c153] | rw [if_neg c153, if_pos c163] | rw [if_neg c153, if_neg c163], ⟨V1, A1, hM1, rm_vs (rm_as hR hA1) hV1⟩, hO1⟩
              · skip
                refine xiload hx hb dX12_fairsNow_156 hl rfl ?_
                refine lv_goto (tgt := 176) hx hb dX12_fairsNow_158 (by decide) ?_
                exact xiret hx hb hr hlk hw hS dX12_fairsNow_176 ⟨by rw [show t = k by omega, hfv]; first | rw [if_pos c153] | rw [if_neg c153, if_pos c163] | rw [if_neg c153, if_neg c163], ⟨V1, A1, hM1, rm_vs (rm_as hR hA1) hV1⟩, hO1⟩
            · skip
              refine xaload_n hx hb dX12_fairsNow_45 hl rfl ?_
              refine xaload_n hx hb dX12_fairsNow_46 hl rfl ?_
              refine xgetM hx hb hts hiX12 hown hG hw (by repeat first | assumption | exact wu_eq _ _ _ | refine wu_ne (by omega) ?_) 1 (by decide) hlnk0 (by repeat first | assumption | exact vu_eq _ _ _ | refine vu_ne (by decide) ?_) dX12_fairsNow_47 ?_
              refine xVi ⟨hx, hb, hml, hown, hts⟩ (kX12_draw l N0 G _ _ V1 A1 hM1 _ _ h25 hs (by omega) (by omega)) (cwV 1 hts gX12_fairsNow_X12_draw rfl rfl rfl (by decide +kernel) ⟨Nat.le_of_ble_eq_true rfl, Nat.le_of_ble_eq_true rfl⟩) hG hN hw hS (ci := 12) hM1.1 rfl rfl hl.1 rfl (Nat.le_of_ble_eq_true rfl) dX12_fairsNow_50 ⟨Nat.le_of_ble_eq_true rfl, Nat.le_of_ble_eq_true rfl⟩ (fun r50 w50 H locs hp50 hw hS => ?_)
              obtain ⟨rfl, rfl⟩ := hp50
              have hMa := hM1.put (k := 25) (.long (lN (nxs F.1))) (by decide)
              refine xistore hx hb dX12_fairsNow_53 hl (by decide) rfl (fun ls hl => ?_)
              refine xaload_n hx hb dX12_fairsNow_55 hl rfl ?_
              refine xaload_n hx hb dX12_fairsNow_56 hl rfl ?_
              refine xgetM hx hb hts hiX12 hown hG hw (by repeat first | assumption | exact wu_eq _ _ _ | refine wu_ne (by omega) ?_) 1 (by decide) hlnk0 (by repeat first | assumption | exact vu_eq _ _ _ | refine vu_ne (by decide) ?_) dX12_fairsNow_57 ?_
              refine xVi ⟨hx, hb, hml, hown, hts⟩ (kX12_draw l N0 G _ _ _ A1 hMa _ _ (vu_eq _ _ _) (nxs_lt _) (by omega) (by omega)) (cwV 1 hts gX12_fairsNow_X12_draw rfl rfl rfl (by decide +kernel) ⟨Nat.le_of_ble_eq_true rfl, Nat.le_of_ble_eq_true rfl⟩) hG hN hw hS (ci := 12) hMa.1 rfl rfl hl.1 rfl (Nat.le_of_ble_eq_true rfl) dX12_fairsNow_60 ⟨Nat.le_of_ble_eq_true rfl, Nat.le_of_ble_eq_true rfl⟩ (fun r60 w60 H locs hp60 hw hS => ?_)
              obtain ⟨rfl, rfl⟩ := hp60
              have hMb := hMa.put (k := 25) (.long (lN (nxs (nxs F.1)))) (by decide)
              refine xistore hx hb dX12_fairsNow_63 hl (by decide) rfl (fun ls hl => ?_)
              refine lv_iconst (v := nI 1) hx hb dX12_fairsNow_65 (by decide) ?_
              refine xaload_n hx hb dX12_fairsNow_66 hl rfl ?_
              refine lv_bipush (v := nI 9) hx hb dX12_fairsNow_67 (by decide) ?_
              refine xVi ⟨hx, hb, hml, hown, hts⟩ (kX12_draw l N0 G _ _ _ A1 hMb _ 9 (vu_eq _ _ _) (nxs_lt _) (by omega) (by omega)) (cwV 1 hts gX12_fairsNow_X12_draw rfl rfl rfl (by decide +kernel) ⟨Nat.le_of_ble_eq_true rfl, Nat.le_of_ble_eq_true rfl⟩) hG hN hw hS (ci := 12) hMb.1 rfl rfl hl.1 rfl (Nat.le_of_ble_eq_true rfl) dX12_fairsNow_69 ⟨Nat.le_of_ble_eq_true rfl, Nat.le_of_ble_eq_true rfl⟩ (fun r69 w69 H locs hp69 hw hS => ?_)
              obtain ⟨rfl, rfl⟩ := hp69
              have hM4 := hMb.put (k := 25) (.long (lN (nxs (nxs (nxs F.1))))) (by decide)
              obtain ⟨V4, hV4e⟩ : ∃ V4, V4 = vu (vu (vu V1 25 (.long (lN (nxs F.1)))) 25 (.long (lN (nxs (nxs F.1))))) 25 (.long (lN (nxs (nxs (nxs F.1))))) := ⟨_, rfl⟩
              rw [← hV4e] at hM4 hw
              have h45 : V4 25 = .long (lN (nxs (nxs (nxs F.1)))) := by rw [hV4e]; exact vu_eq _ _ _
              have hV4 : Vs V V4 := by rw [hV4e]; exact hV1.s25.s25.s25
              have hR4 := rm_vs (rm_as hR hA1) hV4
              obtain ⟨w4, hw4e⟩ : ∃ w4, w4 = wu (wu (wu w1 M0 (eO 12 (mfl (vu V1 25 (.long (lN (nxs F.1))))))) M0 (eO 12 (mfl (vu (vu V1 25 (.long (lN (nxs F.1)))) 25 (.long (lN (nxs (nxs F.1)))))))) M0 (eO 12 (mfl V4)) := ⟨_, rfl⟩
              rw [← hw4e] at hM4 hw
              have hO4 : Out w w4 M0 (M0 + 20) := by rw [hw4e]; exact ((hO1.wu (by omega) (by omega)).wu (by omega) (by omega)).wu (by omega) (by omega)
              have hm4c := hM4.1
              first | refine xadd hx hb dX12_fairsNow_72 ?_ | refine lv_iadd hx hb dX12_fairsNow_72 ?_
              refine xistore hx hb dX12_fairsNow_73 hl (by decide) rfl (fun ls hl => ?_)
              have hl : lh ls 11 [some (.ref M0), some (.int (nI t)), some (.int (nI d)), some (.int (nI z)), some (.int (nI F.2.2.1)), some (.int (nI F.2.2.2)), some (.int (nI k)), some (.int (nI (fPen (sP S) F))), some (.int (nI (fTo (sP S) F))), some (.int (nI (fDebt F))), u10] := hl
              have hdb : 1 ≤ fDebt F ∧ fDebt F ≤ 9 := by unfold fDebt; omega
              refine xaload_n hx hb dX12_fairsNow_75 hl rfl ?_
              refine xiload hx hb dX12_fairsNow_76 hl rfl ?_
              refine xiload hx hb dX12_fairsNow_78 hl rfl ?_
              refine xVi ⟨hx, hb, hml, hown, hts⟩ (kX12_mayThink l N0 G _ _ V4 A1 hM4 S hR4 hL (fPen (sP S) F) hi0 (F.2.1 (fPen (sP S) F)) hTi.1 hTi.2.1 hTi.2.2 hFi (fTo (sP S) F) (by omega)) (cwV 2 hts gX12_fairsNow_X12_mayThink rfl rfl rfl (by decide +kernel) ⟨Nat.le_of_ble_eq_true rfl, Nat.le_of_ble_eq_true rfl⟩) hG hN hw hS (ci := 12) hM4.1 rfl rfl hl.1 rfl (Nat.le_of_ble_eq_true rfl) dX12_fairsNow_80 ⟨Nat.le_of_ble_eq_true rfl, Nat.le_of_ble_eq_true rfl⟩ (fun r80 w80 H locs hp80 hw hS => ?_)
              obtain ⟨rfl, rfl⟩ := hp80
              first | refine xifb_eq (tgt := 94) hx hb dX12_fairsNow_83 (by decide) (fun c83 => ?_) (fun c83 => ?_) | refine xif_eq (tgt := 94) hx hb dX12_fairsNow_83 (by decide) (by omega) (fun c83 => ?_) (fun c83 => ?_) | refine lv_if_eq (tgt := 94) hx hb dX12_fairsNow_83 (by decide) (fun c83 => ?_) (fun c83 => ?_)
              · skip
                obtain ⟨A5, w5, hw5, hM5, hN5, hT5, hO5⟩ : ∃ A5 w5, PW N0 G w5 H ∧ MW G w5 M0 V4 A5 ∧ Nk A1 A5 (fPen (sP S) F) ∧ TT A5 (fHist (sP S) F) (fPen (sP S) F) ∧ Out w w5 M0 (M0 + 20) := by
                  first
                    | (have e9 : fHist (sP S) F = fTo (sP S) F :: F.2.1 (fPen (sP S) F) := if_pos c83
                       rw [e9]; exact ⟨A2, _, hw, hM2, hN2, tt_lent hTi hT2 (mayL_len c83), hO4.tr hO2 (Nat.le_refl _) (Nat.le_refl _)⟩)
                    | (have e9 : fHist (sP S) F = F.2.1 (fPen (sP S) F) := if_neg (fun z => absurd (z.symm.trans c83) (by decide))
                       rw [e9]; exact ⟨A1, w4, hw, hM4, Nk.rf, hTi, hO4⟩)
                replace hw := hw5
                have hR5 := rm_as (rm_vs hR hV4) (hA1.trN hN5)
                have hal5 : ∀ x ∈ fHist (sP S) F, x < sn S := fHist_all hn0 hFall
                have hddl := dd_len (n := 5) (h := fHist (sP S) F) (fun x hx => Nat.lt_of_lt_of_le (hal5 x hx) hn5)
                have hb32 : bnd (sP S) (sL S) (fHist (sP S) F) < 32 := bnd32 (lim := sL S) hal5 hn5
                have hm5c := hM5.1
                have hp5 := pcN_le (bnd (sP S) (sL S) (fHist (sP S) F))
                refine xaload_n hx hb dX12_fairsNow_94 hl rfl ?_
                refine xiload hx hb dX12_fairsNow_95 hl rfl ?_
                refine xVi ⟨hx, hb, hml, hown, hts⟩ (kX12_boundThought l N0 G _ _ V4 A5 hM5 S hR5 hL (fPen (sP S) F) hi0 (dd (fHist (sP S) F)) _ hT5.1 (fun x hx => hal5 x (dd_sub _ hx)) hddl) (cwV 1 hts gX12_fairsNow_X12_boundThought rfl rfl rfl (by decide +kernel) ⟨Nat.le_of_ble_eq_true rfl, Nat.le_of_ble_eq_true rfl⟩) hG hN hw hS (ci := 12) hM5.1 rfl rfl hl.1 rfl (Nat.le_of_ble_eq_true rfl) dX12_fairsNow_97 ⟨Nat.le_of_ble_eq_true rfl, Nat.le_of_ble_eq_true rfl⟩ (fun r97 w97 H locs hp97 hw hS => ?_)
                obtain ⟨rfl, rfl⟩ := hp97
                refine xtop (y := nI (bnd (sP S) (sL S) (fHist (sP S) F))) rfl ?_
                refine xistore hx hb dX12_fairsNow_100 hl (by decide) rfl (fun ls hl => ?_)
                refine xiload hx hb dX12_fairsNow_102 hl rfl ?_
                refine xiload hx hb dX12_fairsNow_104 hl rfl ?_
                first | refine xifb_ne (tgt := 113) hx hb dX12_fairsNow_106 (by decide) (fun c106 => ?_) (fun c106 => ?_) | refine xif_ne (tgt := 113) hx hb dX12_fairsNow_106 (by decide) (by omega) (fun c106 => ?_) (fun c106 => ?_) | refine lv_if_ne (tgt := 113) hx hb dX12_fairsNow_106 (by decide) (fun c106 => ?_) (fun c106 => ?_)
                · skip
                  refine lv_iconst (v := nI 0) hx hb dX12_fairsNow_113 (by decide) ?_
                  refine xtop (y := nI (if bnd (sP S) (sL S) (fHist (sP S) F) = 0 then 1 else 0)) (by first | rw [if_pos c106] | rw [if_neg c106]) ?_
                  first | refine xadd hx hb dX12_fairsNow_114 ?_ | refine lv_iadd hx hb dX12_fairsNow_114 ?_
                  refine xistore hx hb dX12_fairsNow_115 hl (by decide) rfl (fun ls hl => ?_)
                  refine xiload hx hb dX12_fairsNow_117 hl rfl ?_
                  refine xiload hx hb dX12_fairsNow_119 hl rfl ?_
                  refine lv_iconst (v := nI 0) hx hb dX12_fairsNow_121 (by decide) ?_
                  refine xSi ⟨hx, hb, hml, hown, hts⟩ (kX12_isIn l N0 G _ _ 0 hb32 (by omega)) (va_cwS 2 hts gX12_fairsNow_X12_isIn rfl rfl rfl (by decide +kernel) ⟨Nat.le_of_ble_eq_true rfl, Nat.le_of_ble_eq_true rfl⟩) hG hN hw hS rfl hl.1 rfl (Nat.le_of_ble_eq_true rfl) dX12_fairsNow_122 ⟨Nat.le_of_ble_eq_true rfl, Nat.le_of_ble_eq_true rfl⟩ (fun r122 w122 H locs hp122 hw hS => ?_)
                  obtain ⟨rfl, rfl⟩ := hp122
                  first | refine xifb_eq (tgt := 142) hx hb dX12_fairsNow_125 (by decide) (fun c125 => ?_) (fun c125 => ?_) | refine xif_eq (tgt := 142) hx hb dX12_fairsNow_125 (by decide) (by omega) (fun c125 => ?_) (fun c125 => ?_) | refine lv_if_eq (tgt := 142) hx hb dX12_fairsNow_125 (by decide) (fun c125 => ?_) (fun c125 => ?_)
                  · skip
                    refine lv_iconst (v := nI 0) hx hb dX12_fairsNow_142 (by decide) ?_
                    refine xtop (y := nI (if (bnd (sP S) (sL S) (fHist (sP S) F)).testBit 0 = true then 60 * fDebt F / pcN (bnd (sP S) (sL S) (fHist (sP S) F)) else 0)) (by first | rw [if_pos c125] | rw [if_neg (by rw [c125]; decide)]) ?_
                    first | refine xadd hx hb dX12_fairsNow_143 ?_ | refine lv_iadd hx hb dX12_fairsNow_143 ?_
                    refine xistore hx hb dX12_fairsNow_144 hl (by decide) rfl (fun ls hl => ?_)
                    first | refine xiincN hx hb 1 dX12_fairsNow_146 hl rfl (by decide) (by decide) rfl (fun ls hl => ?_) | refine xiinc hx hb dX12_fairsNow_146 hl rfl rfl (by decide) rfl (fun ls hl => ?_)
                    refine lv_goto (tgt := 39) hx hb dX12_fairsNow_149 (by decide) ?_
                    exact ih39 (k + 1) V4 A5 w5 _ _ _ _ _ _ _ (by omega) (by omega) hV4 (by rw [hst]; exact h45) (by rw [hst]; exact nxs_lt _) (hA1.trN hN5) hM5 (by rw [hst]; exact ft_step hT hN5 hT5 (fun j hj => dd_len (n := 5) (fun x hx => Nat.lt_of_lt_of_le (hFall j hj x hx) hn5))) hO5 hw hS (by rw [hst]; exact hl)
                  · skip
                    have hpp := pcN_pos _ hb32 (tb_ne c125)
                    refine lv_bipush (v := nI 60) hx hb dX12_fairsNow_128 (by decide) ?_
                    refine xiload hx hb dX12_fairsNow_130 hl rfl ?_
                    first | refine xmul hx hb dX12_fairsNow_132 ?_ | refine lv_imul hx hb dX12_fairsNow_132 ?_
                    refine xiload hx hb dX12_fairsNow_133 hl rfl ?_
                    refine xSi ⟨hx, hb, hml, hown, hts⟩ (kX12_size l N0 G _ _ hb32) (va_cwS 1 hts gX12_fairsNow_X12_size rfl rfl rfl (by decide +kernel) ⟨Nat.le_of_ble_eq_true rfl, Nat.le_of_ble_eq_true rfl⟩) hG hN hw hS rfl hl.1 rfl (Nat.le_of_ble_eq_true rfl) dX12_fairsNow_135 ⟨Nat.le_of_ble_eq_true rfl, Nat.le_of_ble_eq_true rfl⟩ (fun r135 w135 H locs hp135 hw hS => ?_)
                    obtain ⟨rfl, rfl⟩ := hp135
                    refine xdiv hx hb dX12_fairsNow_138 (by omega) (by omega) (by omega) ?_
                    refine lv_goto (tgt := 143) hx hb dX12_fairsNow_139 (by decide) ?_
                    refine xtop (y := nI (if (bnd (sP S) (sL S) (fHist (sP S) F)).testBit 0 = true then 60 * fDebt F / pcN (bnd (sP S) (sL S) (fHist (sP S) F)) else 0)) (by first | rw [if_pos c125] | rw [if_neg (by rw [c125]; decide)]) ?_
                    first | refine xadd hx hb dX12_fairsNow_143 ?_ | refine lv_iadd hx hb dX12_fairsNow_143 ?_
                    refine xistore hx hb dX12_fairsNow_144 hl (by decide) rfl (fun ls hl => ?_)
                    first | refine xiincN hx hb 1 dX12_fairsNow_146 hl rfl (by decide) (by decide) rfl (fun ls hl => ?_) | refine xiinc hx hb dX12_fairsNow_146 hl rfl rfl (by decide) rfl (fun ls hl => ?_)
                    refine lv_goto (tgt := 39) hx hb dX12_fairsNow_149 (by decide) ?_
                    exact ih39 (k + 1) V4 A5 w5 _ _ _ _ _ _ _ (by omega) (by omega) hV4 (by rw [hst]; exact h45) (by rw [hst]; exact nxs_lt _) (hA1.trN hN5) hM5 (by rw [hst]; exact ft_step hT hN5 hT5 (fun j hj => dd_len (n := 5) (fun x hx => Nat.lt_of_lt_of_le (hFall j hj x hx) hn5))) hO5 hw hS (by rw [hst]; exact hl)
                · skip
                  refine lv_iconst (v := nI 1) hx hb dX12_fairsNow_109 (by decide) ?_
                  refine lv_goto (tgt := 114) hx hb dX12_fairsNow_110 (by decide) ?_
                  refine xtop (y := nI (if bnd (sP S) (sL S) (fHist (sP S) F) = 0 then 1 else 0)) (by first | rw [if_pos c106] | rw [if_neg c106]) ?_
                  first | refine xadd hx hb dX12_fairsNow_114 ?_ | refine lv_iadd hx hb dX12_fairsNow_114 ?_
                  refine xistore hx hb dX12_fairsNow_115 hl (by decide) rfl (fun ls hl => ?_)
                  refine xiload hx hb dX12_fairsNow_117 hl rfl ?_
                  refine xiload hx hb dX12_fairsNow_119 hl rfl ?_
                  refine lv_iconst (v := nI 0) hx hb dX12_fairsNow_121 (by decide) ?_
                  refine xSi ⟨hx, hb, hml, hown, hts⟩ (kX12_isIn l N0 G _ _ 0 hb32 (by omega)) (va_cwS 2 hts gX12_fairsNow_X12_isIn rfl rfl rfl (by decide +kernel) ⟨Nat.le_of_ble_eq_true rfl, Nat.le_of_ble_eq_true rfl⟩) hG hN hw hS rfl hl.1 rfl (Nat.le_of_ble_eq_true rfl) dX12_fairsNow_122 ⟨Nat.le_of_ble_eq_true rfl, Nat.le_of_ble_eq_true rfl⟩ (fun r122 w122 H locs hp122 hw hS => ?_)
                  obtain ⟨rfl, rfl⟩ := hp122
                  first | refine xifb_eq (tgt := 142) hx hb dX12_fairsNow_125 (by decide) (fun c125 => ?_) (fun c125 => ?_) | refine xif_eq (tgt := 142) hx hb dX12_fairsNow_125 (by decide) (by omega) (fun c125 => ?_) (fun c125 => ?_) | refine lv_if_eq (tgt := 142) hx hb dX12_fairsNow_125 (by decide) (fun c125 => ?_) (fun c125 => ?_)
                  · skip
                    refine lv_iconst (v := nI 0) hx hb dX12_fairsNow_142 (by decide) ?_
                    refine xtop (y := nI (if (bnd (sP S) (sL S) (fHist (sP S) F)).testBit 0 = true then 60 * fDebt F / pcN (bnd (sP S) (sL S) (fHist (sP S) F)) else 0)) (by first | rw [if_pos c125] | rw [if_neg (by rw [c125]; decide)]) ?_
                    first | refine xadd hx hb dX12_fairsNow_143 ?_ | refine lv_iadd hx hb dX12_fairsNow_143 ?_
                    refine xistore hx hb dX12_fairsNow_144 hl (by decide) rfl (fun ls hl => ?_)
                    first | refine xiincN hx hb 1 dX12_fairsNow_146 hl rfl (by decide) (by decide) rfl (fun ls hl => ?_) | refine xiinc hx hb dX12_fairsNow_146 hl rfl rfl (by decide) rfl (fun ls hl => ?_)
                    refine lv_goto (tgt := 39) hx hb dX12_fairsNow_149 (by decide) ?_
                    exact ih39 (k + 1) V4 A5 w5 _ _ _ _ _ _ _ (by omega) (by omega) hV4 (by rw [hst]; exact h45) (by rw [hst]; exact nxs_lt _) (hA1.trN hN5) hM5 (by rw [hst]; exact ft_step hT hN5 hT5 (fun j hj => dd_len (n := 5) (fun x hx => Nat.lt_of_lt_of_le (hFall j hj x hx) hn5))) hO5 hw hS (by rw [hst]; exact hl)
                  · skip
                    have hpp := pcN_pos _ hb32 (tb_ne c125)
                    refine lv_bipush (v := nI 60) hx hb dX12_fairsNow_128 (by decide) ?_
                    refine xiload hx hb dX12_fairsNow_130 hl rfl ?_
                    first | refine xmul hx hb dX12_fairsNow_132 ?_ | refine lv_imul hx hb dX12_fairsNow_132 ?_
                    refine xiload hx hb dX12_fairsNow_133 hl rfl ?_
                    refine xSi ⟨hx, hb, hml, hown, hts⟩ (kX12_size l N0 G _ _ hb32) (va_cwS 1 hts gX12_fairsNow_X12_size rfl rfl rfl (by decide +kernel) ⟨Nat.le_of_ble_eq_true rfl, Nat.le_of_ble_eq_true rfl⟩) hG hN hw hS rfl hl.1 rfl (Nat.le_of_ble_eq_true rfl) dX12_fairsNow_135 ⟨Nat.le_of_ble_eq_true rfl, Nat.le_of_ble_eq_true rfl⟩ (fun r135 w135 H locs hp135 hw hS => ?_)
                    obtain ⟨rfl, rfl⟩ := hp135
                    refine xdiv hx hb dX12_fairsNow_138 (by omega) (by omega) (by omega) ?_
                    refine lv_goto (tgt := 143) hx hb dX12_fairsNow_139 (by decide) ?_
                    refine xtop (y := nI (if (bnd (sP S) (sL S) (fHist (sP S) F)).testBit 0 = true then 60 * fDebt F / pcN (bnd (sP S) (sL S) (fHist (sP S) F)) else 0)) (by first | rw [if_pos c125] | rw [if_neg (by rw [c125]; decide)]) ?_
                    first | refine xadd hx hb dX12_fairsNow_143 ?_ | refine lv_iadd hx hb dX12_fairsNow_143 ?_
                    refine xistore hx hb dX12_fairsNow_144 hl (by decide) rfl (fun ls hl => ?_)
                    first | refine xiincN hx hb 1 dX12_fairsNow_146 hl rfl (by decide) (by decide) rfl (fun ls hl => ?_) | refine xiinc hx hb dX12_fairsNow_146 hl rfl rfl (by decide) rfl (fun ls hl => ?_)
                    refine lv_goto (tgt := 39) hx hb dX12_fairsNow_149 (by decide) ?_
                    exact ih39 (k + 1) V4 A5 w5 _ _ _ _ _ _ _ (by omega) (by omega) hV4 (by rw [hst]; exact h45) (by rw [hst]; exact nxs_lt _) (hA1.trN hN5) hM5 (by rw [hst]; exact ft_step hT hN5 hT5 (fun j hj => dd_len (n := 5) (fun x hx => Nat.lt_of_lt_of_le (hFall j hj x hx) hn5))) hO5 hw hS (by rw [hst]; exact hl)
              · skip
                refine xaload_n hx hb dX12_fairsNow_86 hl rfl ?_
                refine xiload hx hb dX12_fairsNow_87 hl rfl ?_
                refine xiload hx hb dX12_fairsNow_89 hl rfl ?_
                refine xVv ⟨hx, hb, hml, hown, hts⟩ (kX12_thinkLent l N0 G _ _ V4 A1 hM4 S hR4 hL (fPen (sP S) F) hi0 (dd (F.2.1 (fPen (sP S) F))) ((F.2.1 (fPen (sP S) F)).length - 1) hTi.1 (dd_nodup _) (fun x hx => Nat.lt_of_lt_of_le (hFi x (dd_sub _ hx)) hn5) (fTo (sP S) F) (by omega)) (cwV 2 hts gX12_fairsNow_X12_thinkLent rfl rfl rfl (by decide +kernel) ⟨Nat.le_of_ble_eq_true rfl, Nat.le_of_ble_eq_true rfl⟩) hG hN hw hS (ci := 12) hM4.1 rfl rfl hl.1 rfl (Nat.le_of_ble_eq_true rfl) dX12_fairsNow_91 ⟨Nat.le_of_ble_eq_true rfl, Nat.le_of_ble_eq_true rfl⟩ (fun r91 w91 H locs hp91 hw hS => ?_)
                obtain ⟨A2, hM2, hN2, hT2, hO2⟩ := hp91
                obtain ⟨A5, w5, hw5, hM5, hN5, hT5, hO5⟩ : ∃ A5 w5, PW N0 G w5 H ∧ MW G w5 M0 V4 A5 ∧ Nk A1 A5 (fPen (sP S) F) ∧ TT A5 (fHist (sP S) F) (fPen (sP S) F) ∧ Out w w5 M0 (M0 + 20) := by
                  first
                    | (have e9 : fHist (sP S) F = fTo (sP S) F :: F.2.1 (fPen (sP S) F) := if_pos c83
                       rw [e9]; exact ⟨A2, _, hw, hM2, hN2, tt_lent hTi hT2 (mayL_len c83), hO4.tr hO2 (Nat.le_refl _) (Nat.le_refl _)⟩)
                    | (have e9 : fHist (sP S) F = F.2.1 (fPen (sP S) F) := if_neg (fun z => absurd (z.symm.trans c83) (by decide))
                       rw [e9]; exact ⟨A1, w4, hw, hM4, Nk.rf, hTi, hO4⟩)
                replace hw := hw5
                have hR5 := rm_as (rm_vs hR hV4) (hA1.trN hN5)
                have hal5 : ∀ x ∈ fHist (sP S) F, x < sn S := fHist_all hn0 hFall
                have hddl := dd_len (n := 5) (h := fHist (sP S) F) (fun x hx => Nat.lt_of_lt_of_le (hal5 x hx) hn5)
                have hb32 : bnd (sP S) (sL S) (fHist (sP S) F) < 32 := bnd32 (lim := sL S) hal5 hn5
                have hm5c := hM5.1
                have hp5 := pcN_le (bnd (sP S) (sL S) (fHist (sP S) F))
                refine xaload_n hx hb dX12_fairsNow_94 hl rfl ?_
                refine xiload hx hb dX12_fairsNow_95 hl rfl ?_
                refine xVi ⟨hx, hb, hml, hown, hts⟩ (kX12_boundThought l N0 G _ _ V4 A5 hM5 S hR5 hL (fPen (sP S) F) hi0 (dd (fHist (sP S) F)) _ hT5.1 (fun x hx => hal5 x (dd_sub _ hx)) hddl) (cwV 1 hts gX12_fairsNow_X12_boundThought rfl rfl rfl (by decide +kernel) ⟨Nat.le_of_ble_eq_true rfl, Nat.le_of_ble_eq_true rfl⟩) hG hN hw hS (ci := 12) hM5.1 rfl rfl hl.1 rfl (Nat.le_of_ble_eq_true rfl) dX12_fairsNow_97 ⟨Nat.le_of_ble_eq_true rfl, Nat.le_of_ble_eq_true rfl⟩ (fun r97 w97 H locs hp97 hw hS => ?_)
                obtain ⟨rfl, rfl⟩ := hp97
                refine xtop (y := nI (bnd (sP S) (sL S) (fHist (sP S) F))) rfl ?_
                refine xistore hx hb dX12_fairsNow_100 hl (by decide) rfl (fun ls hl => ?_)
                refine xiload hx hb dX12_fairsNow_102 hl rfl ?_
                refine xiload hx hb dX12_fairsNow_104 hl rfl ?_
                first | refine xifb_ne (tgt := 113) hx hb dX12_fairsNow_106 (by decide) (fun c106 => ?_) (fun c106 => ?_) | refine xif_ne (tgt := 113) hx hb dX12_fairsNow_106 (by decide) (by omega) (fun c106 => ?_) (fun c106 => ?_) | refine lv_if_ne (tgt := 113) hx hb dX12_fairsNow_106 (by decide) (fun c106 => ?_) (fun c106 => ?_)
                · skip
                  refine lv_iconst (v := nI 0) hx hb dX12_fairsNow_113 (by decide) ?_
                  refine xtop (y := nI (if bnd (sP S) (sL S) (fHist (sP S) F) = 0 then 1 else 0)) (by first | rw [if_pos c106] | rw [if_neg c106]) ?_
                  first | refine xadd hx hb dX12_fairsNow_114 ?_ | refine lv_iadd hx hb dX12_fairsNow_114 ?_
                  refine xistore hx hb dX12_fairsNow_115 hl (by decide) rfl (fun ls hl => ?_)
                  refine xiload hx hb dX12_fairsNow_117 hl rfl ?_
                  refine xiload hx hb dX12_fairsNow_119 hl rfl ?_
                  refine lv_iconst (v := nI 0) hx hb dX12_fairsNow_121 (by decide) ?_
                  refine xSi ⟨hx, hb, hml, hown, hts⟩ (kX12_isIn l N0 G _ _ 0 hb32 (by omega)) (va_cwS 2 hts gX12_fairsNow_X12_isIn rfl rfl rfl (by decide +kernel) ⟨Nat.le_of_ble_eq_true rfl, Nat.le_of_ble_eq_true rfl⟩) hG hN hw hS rfl hl.1 rfl (Nat.le_of_ble_eq_true rfl) dX12_fairsNow_122 ⟨Nat.le_of_ble_eq_true rfl, Nat.le_of_ble_eq_true rfl⟩ (fun r122 w122 H locs hp122 hw hS => ?_)
                  obtain ⟨rfl, rfl⟩ := hp122
                  first | refine xifb_eq (tgt := 142) hx hb dX12_fairsNow_125 (by decide) (fun c125 => ?_) (fun c125 => ?_) | refine xif_eq (tgt := 142) hx hb dX12_fairsNow_125 (by decide) (by omega) (fun c125 => ?_) (fun c125 => ?_) | refine lv_if_eq (tgt := 142) hx hb dX12_fairsNow_125 (by decide) (fun c125 => ?_) (fun c125 => ?_)
                  · skip
                    refine lv_iconst (v := nI 0) hx hb dX12_fairsNow_142 (by decide) ?_
                    refine xtop (y := nI (if (bnd (sP S) (sL S) (fHist (sP S) F)).testBit 0 = true then 60 * fDebt F / pcN (bnd (sP S) (sL S) (fHist (sP S) F)) else 0)) (by first | rw [if_pos c125] | rw [if_neg (by rw [c125]; decide)]) ?_
                    first | refine xadd hx hb dX12_fairsNow_143 ?_ | refine lv_iadd hx hb dX12_fairsNow_143 ?_
                    refine xistore hx hb dX12_fairsNow_144 hl (by decide) rfl (fun ls hl => ?_)
                    first | refine xiincN hx hb 1 dX12_fairsNow_146 hl rfl (by decide) (by decide) rfl (fun ls hl => ?_) | refine xiinc hx hb dX12_fairsNow_146 hl rfl rfl (by decide) rfl (fun ls hl => ?_)
                    refine lv_goto (tgt := 39) hx hb dX12_fairsNow_149 (by decide) ?_
                    exact ih39 (k + 1) V4 A5 w5 _ _ _ _ _ _ _ (by omega) (by omega) hV4 (by rw [hst]; exact h45) (by rw [hst]; exact nxs_lt _) (hA1.trN hN5) hM5 (by rw [hst]; exact ft_step hT hN5 hT5 (fun j hj => dd_len (n := 5) (fun x hx => Nat.lt_of_lt_of_le (hFall j hj x hx) hn5))) hO5 hw hS (by rw [hst]; exact hl)
                  · skip
                    have hpp := pcN_pos _ hb32 (tb_ne c125)
                    refine lv_bipush (v := nI 60) hx hb dX12_fairsNow_128 (by decide) ?_
                    refine xiload hx hb dX12_fairsNow_130 hl rfl ?_
                    first | refine xmul hx hb dX12_fairsNow_132 ?_ | refine lv_imul hx hb dX12_fairsNow_132 ?_
                    refine xiload hx hb dX12_fairsNow_133 hl rfl ?_
                    refine xSi ⟨hx, hb, hml, hown, hts⟩ (kX12_size l N0 G _ _ hb32) (va_cwS 1 hts gX12_fairsNow_X12_size rfl rfl rfl (by decide +kernel) ⟨Nat.le_of_ble_eq_true rfl, Nat.le_of_ble_eq_true rfl⟩) hG hN hw hS rfl hl.1 rfl (Nat.le_of_ble_eq_true rfl) dX12_fairsNow_135 ⟨Nat.le_of_ble_eq_true rfl, Nat.le_of_ble_eq_true rfl⟩ (fun r135 w135 H locs hp135 hw hS => ?_)
                    obtain ⟨rfl, rfl⟩ := hp135
                    refine xdiv hx hb dX12_fairsNow_138 (by omega) (by omega) (by omega) ?_
                    refine lv_goto (tgt := 143) hx hb dX12_fairsNow_139 (by decide) ?_
                    refine xtop (y := nI (if (bnd (sP S) (sL S) (fHist (sP S) F)).testBit 0 = true then 60 * fDebt F / pcN (bnd (sP S) (sL S) (fHist (sP S) F)) else 0)) (by first | rw [if_pos c125] | rw [if_neg (by rw [c125]; decide)]) ?_
                    first | refine xadd hx hb dX12_fairsNow_143 ?_ | refine lv_iadd hx hb dX12_fairsNow_143 ?_
                    refine xistore hx hb dX12_fairsNow_144 hl (by decide) rfl (fun ls hl => ?_)
                    first | refine xiincN hx hb 1 dX12_fairsNow_146 hl rfl (by decide) (by decide) rfl (fun ls hl => ?_) | refine xiinc hx hb dX12_fairsNow_146 hl rfl rfl (by decide) rfl (fun ls hl => ?_)
                    refine lv_goto (tgt := 39) hx hb dX12_fairsNow_149 (by decide) ?_
                    exact ih39 (k + 1) V4 A5 w5 _ _ _ _ _ _ _ (by omega) (by omega) hV4 (by rw [hst]; exact h45) (by rw [hst]; exact nxs_lt _) (hA1.trN hN5) hM5 (by rw [hst]; exact ft_step hT hN5 hT5 (fun j hj => dd_len (n := 5) (fun x hx => Nat.lt_of_lt_of_le (hFall j hj x hx) hn5))) hO5 hw hS (by rw [hst]; exact hl)
                · skip
                  refine lv_iconst (v := nI 1) hx hb dX12_fairsNow_109 (by decide) ?_
                  refine lv_goto (tgt := 114) hx hb dX12_fairsNow_110 (by decide) ?_
                  refine xtop (y := nI (if bnd (sP S) (sL S) (fHist (sP S) F) = 0 then 1 else 0)) (by first | rw [if_pos c106] | rw [if_neg c106]) ?_
                  first | refine xadd hx hb dX12_fairsNow_114 ?_ | refine lv_iadd hx hb dX12_fairsNow_114 ?_
                  refine xistore hx hb dX12_fairsNow_115 hl (by decide) rfl (fun ls hl => ?_)
                  refine xiload hx hb dX12_fairsNow_117 hl rfl ?_
                  refine xiload hx hb dX12_fairsNow_119 hl rfl ?_
                  refine lv_iconst (v := nI 0) hx hb dX12_fairsNow_121 (by decide) ?_
                  refine xSi ⟨hx, hb, hml, hown, hts⟩ (kX12_isIn l N0 G _ _ 0 hb32 (by omega)) (va_cwS 2 hts gX12_fairsNow_X12_isIn rfl rfl rfl (by decide +kernel) ⟨Nat.le_of_ble_eq_true rfl, Nat.le_of_ble_eq_true rfl⟩) hG hN hw hS rfl hl.1 rfl (Nat.le_of_ble_eq_true rfl) dX12_fairsNow_122 ⟨Nat.le_of_ble_eq_true rfl, Nat.le_of_ble_eq_true rfl⟩ (fun r122 w122 H locs hp122 hw hS => ?_)
                  obtain ⟨rfl, rfl⟩ := hp122
                  first | refine xifb_eq (tgt := 142) hx hb dX12_fairsNow_125 (by decide) (fun c125 => ?_) (fun c125 => ?_) | refine xif_eq (tgt := 142) hx hb dX12_fairsNow_125 (by decide) (by omega) (fun c125 => ?_) (fun c125 => ?_) | refine lv_if_eq (tgt := 142) hx hb dX12_fairsNow_125 (by decide) (fun c125 => ?_) (fun c125 => ?_)
                  · skip
                    refine lv_iconst (v := nI 0) hx hb dX12_fairsNow_142 (by decide) ?_
                    refine xtop (y := nI (if (bnd (sP S) (sL S) (fHist (sP S) F)).testBit 0 = true then 60 * fDebt F / pcN (bnd (sP S) (sL S) (fHist (sP S) F)) else 0)) (by first | rw [if_pos c125] | rw [if_neg (by rw [c125]; decide)]) ?_
                    first | refine xadd hx hb dX12_fairsNow_143 ?_ | refine lv_iadd hx hb dX12_fairsNow_143 ?_
                    refine xistore hx hb dX12_fairsNow_144 hl (by decide) rfl (fun ls hl => ?_)
                    first | refine xiincN hx hb 1 dX12_fairsNow_146 hl rfl (by decide) (by decide) rfl (fun ls hl => ?_) | refine xiinc hx hb dX12_fairsNow_146 hl rfl rfl (by decide) rfl (fun ls hl => ?_)
                    refine lv_goto (tgt := 39) hx hb dX12_fairsNow_149 (by decide) ?_
                    exact ih39 (k + 1) V4 A5 w5 _ _ _ _ _ _ _ (by omega) (by omega) hV4 (by rw [hst]; exact h45) (by rw [hst]; exact nxs_lt _) (hA1.trN hN5) hM5 (by rw [hst]; exact ft_step hT hN5 hT5 (fun j hj => dd_len (n := 5) (fun x hx => Nat.lt_of_lt_of_le (hFall j hj x hx) hn5))) hO5 hw hS (by rw [hst]; exact hl)
                  · skip
                    have hpp := pcN_pos _ hb32 (tb_ne c125)
                    refine lv_bipush (v := nI 60) hx hb dX12_fairsNow_128 (by decide) ?_
                    refine xiload hx hb dX12_fairsNow_130 hl rfl ?_
                    first | refine xmul hx hb dX12_fairsNow_132 ?_ | refine lv_imul hx hb dX12_fairsNow_132 ?_
                    refine xiload hx hb dX12_fairsNow_133 hl rfl ?_
                    refine xSi ⟨hx, hb, hml, hown, hts⟩ (kX12_size l N0 G _ _ hb32) (va_cwS 1 hts gX12_fairsNow_X12_size rfl rfl rfl (by decide +kernel) ⟨Nat.le_of_ble_eq_true rfl, Nat.le_of_ble_eq_true rfl⟩) hG hN hw hS rfl hl.1 rfl (Nat.le_of_ble_eq_true rfl) dX12_fairsNow_135 ⟨Nat.le_of_ble_eq_true rfl, Nat.le_of_ble_eq_true rfl⟩ (fun r135 w135 H locs hp135 hw hS => ?_)
                    obtain ⟨rfl, rfl⟩ := hp135
                    refine xdiv hx hb dX12_fairsNow_138 (by omega) (by omega) (by omega) ?_
                    refine lv_goto (tgt := 143) hx hb dX12_fairsNow_139 (by decide) ?_
                    refine xtop (y := nI (if (bnd (sP S) (sL S) (fHist (sP S) F)).testBit 0 = true then 60 * fDebt F / pcN (bnd (sP S) (sL S) (fHist (sP S) F)) else 0)) (by first | rw [if_pos c125] | rw [if_neg (by rw [c125]; decide)]) ?_
                    first | refine xadd hx hb dX12_fairsNow_143 ?_ | refine lv_iadd hx hb dX12_fairsNow_143 ?_
                    refine xistore hx hb dX12_fairsNow_144 hl (by decide) rfl (fun ls hl => ?_)
                    first | refine xiincN hx hb 1 dX12_fairsNow_146 hl rfl (by decide) (by decide) rfl (fun ls hl => ?_) | refine xiinc hx hb dX12_fairsNow_146 hl rfl rfl (by decide) rfl (fun ls hl => ?_)
                    refine lv_goto (tgt := 39) hx hb dX12_fairsNow_149 (by decide) ?_
                    exact ih39 (k + 1) V4 A5 w5 _ _ _ _ _ _ _ (by omega) (by omega) hV4 (by rw [hst]; exact h45) (by rw [hst]; exact nxs_lt _) (hA1.trN hN5) hM5 (by rw [hst]; exact ft_step hT hN5 hT5 (fun j hj => dd_len (n := 5) (fun x hx => Nat.lt_of_lt_of_le (hFall j hj x hx) hn5))) hO5 hw hS (by rw [hst]; exact hl)
        exact loop39 (t + 1) 0 _ A1 _ none none none none _ _ _ (by omega) (by omega) Vs.rf.s25 (vu_eq _ _ _) (show d < 2147483648 by omega) hA1 (hM1.put (k := 25) (.long (lN d)) (by decide)) (fun j hj => ⟨hT j (by omega), hsp j hj⟩) (hO1.wu (by omega) (by omega)) hw hS hl
      · skip
        refine xaload_n hx hb dX12_fairsNow_12 hl rfl ?_
        refine xiload hx hb dX12_fairsNow_13 hl rfl ?_
        refine xVv ⟨hx, hb, hml, hown, hts⟩ (kX12_think l N0 G _ _ V A1 hM1 S hR1 hL k (by omega) (hpa k (by omega))) (cwV 1 hts gX12_fairsNow_X12_think rfl rfl rfl (by decide +kernel) ⟨Nat.le_of_ble_eq_true rfl, Nat.le_of_ble_eq_true rfl⟩) hG hN hw hS (ci := 12) hM1.1 rfl rfl hl.1 rfl (Nat.le_of_ble_eq_true rfl) dX12_fairsNow_15 ⟨Nat.le_of_ble_eq_true rfl, Nat.le_of_ble_eq_true rfl⟩ (fun r15 w15 H locs hp15 hw hS => ?_)
        obtain ⟨A2, hM2, hN2, hT2, hO2⟩ := hp15
        first | refine xiincN hx hb 1 dX12_fairsNow_18 hl rfl (by decide) (by decide) rfl (fun ls hl => ?_) | refine xiinc hx hb dX12_fairsNow_18 hl rfl rfl (by decide) rfl (fun ls hl => ?_)
        refine lv_goto (tgt := 3) hx hb dX12_fairsNow_21 (by decide) ?_
        exact ih3 (k + 1) A2 _ _ _ _ (by omega) (by omega) (hA1.trN hN2) hM2 (tl_all hT hN2 hT2 (fun j hj => dd_len (n := 5) (fun x hx => Nat.lt_of_lt_of_le (hpa j (by omega) x hx) hn5))) (hO1.tr hO2 (Nat.le_refl _) (Nat.le_refl _)) hw hS hl
  exact loop3 (sn S + 1) 0 A _ _ _ _ (by omega) (by omega) (fun _ _ _ _ => rfl) hM (fun j hj => absurd hj (Nat.not_lt_zero j)) Out.rf hw hS hl
set_option maxHeartbeats 4000000 in
set_option maxRecDepth 100000 in
theorem kX12_fairs_in (l : Launch) (N0 : Nat) (G : XG) (w : Wd) (M0 : Nat) (V : Nat → Value) (A : Nat → Nat → Int32) (hM : MW G w M0 V A) (S : QS) (hR : RM S V A) (hL : WB S) (hpa : ∀ i, i < sn S → ∀ x ∈ sp S i, x < sn S) (t d k : Nat) (ht1 : 1 ≤ t) (ht60 : t ≤ 60) (hd31 : d < 2 ^ 31) (hk3 : k < 3) : XM l yX12_fairs wsX12_fairs (rmD 6) N0 G [.ref M0, .int (nI t), .int (nI d), .int (nI k)] w vI (fun r w1 => (if sn S = 0 then -103 else fairV S t d k) = r ∧ (∃ V1 A1, MW G w1 M0 V1 A1 ∧ RM (S) V1 A1) ∧ Out w w1 M0 (M0 + 20)) 0 0 := by
  refine XM.of (cc := cX12_fairs) (maxL := 4) (ret := (some .int)) (by decide) rfl (Nat.le_of_ble_eq_true rfl) ?_
  intro p e s m below meth c hx hb hr hlk hin0 hml hown hts hN hw hG hS ls hl
  have hown : s.vm.findClass RX12 = some m.cls := hown
  have hiX12 : ∀ x ∈ u_ws RX12 TX12 37, x ∈ wsX12_fairs := by decide +kernel
  have hlnk0 := hts (.fieldLink RX12 94 "LentQuillModel" "people" "I") (by decide +kernel)
  have hl : lh ls 4 [some (.ref M0), some (.int (nI t)), some (.int (nI d)), some (.int (nI k))] := hl
  obtain ⟨hm0, ⟨hv3, hv4, hv5, hv6, hv8, hv9, hv11, hv12, hv15, hv18, hv19, hv20, hv24, hv30, hv31, hv32, hv33, hv34, hv35⟩, ha1, ha2, ha3, ha4, ha5, ha6, ha7, ha8, ha9, ha10, ha11, ha12, ha13, ha14, ha15, ha16, ha17, ha18, ha19⟩ := id hM
  obtain ⟨ht, hn, hlm, hdn, hhn, has, hpl, hkw, hRB, hpg, hkp⟩ := id hR
  obtain ⟨hn5, hl5, hkd, hsp, hd6, hdw, hh6, hg18, hgr, hIm⟩ := id hL
  refine xiload_n hx hb dX12_fairs_0 hl rfl ?_
  refine lv_iconst (v := nI 1) hx hb dX12_fairs_1 (by decide) ?_
  refine lv_bipush (v := nI 60) hx hb dX12_fairs_2 (by decide) ?_
  refine xSi ⟨hx, hb, hml, hown, hts⟩ (kX12_within l N0 G _ _ _ _) (va_cwS 3 hts gX12_fairs_X12_within rfl rfl rfl (by decide +kernel) ⟨Nat.le_of_ble_eq_true rfl, Nat.le_of_ble_eq_true rfl⟩) hG hN hw hS rfl hl.1 rfl (Nat.le_of_ble_eq_true rfl) dX12_fairs_4 ⟨Nat.le_of_ble_eq_true rfl, Nat.le_of_ble_eq_true rfl⟩ (fun r4 w4 H locs hp4 hw hS => ?_)
  obtain ⟨rfl, rfl⟩ := hp4
  refine xtop (y := bI true) (congrArg bI (wiB_y (by omega) (by omega) (by omega))) ?_
  first | refine xifb_eq (tgt := 23) hx hb dX12_fairs_7 (by decide) (fun c7 => ?_) (fun c7 => ?_) | refine xif_eq (tgt := 23) hx hb dX12_fairs_7 (by decide) (by omega) (fun c7 => ?_) (fun c7 => ?_) | refine lv_if_eq (tgt := 23) hx hb dX12_fairs_7 (by decide) (fun c7 => ?_) (fun c7 => ?_)
  · skip
    exfalso
    cases c7
  · skip
    refine xiload_n hx hb dX12_fairs_10 hl rfl ?_
    refine xif_lt (tgt := 23) hx hb dX12_fairs_11 (by decide) (by omega) ?_
    refine xiload_n hx hb dX12_fairs_14 hl rfl ?_
    refine lv_iconst (v := nI 0) hx hb dX12_fairs_15 (by decide) ?_
    refine lv_iconst (v := nI 2) hx hb dX12_fairs_16 (by decide) ?_
    refine xSi ⟨hx, hb, hml, hown, hts⟩ (kX12_within l N0 G _ _ _ _) (va_cwS 3 hts gX12_fairs_X12_within rfl rfl rfl (by decide +kernel) ⟨Nat.le_of_ble_eq_true rfl, Nat.le_of_ble_eq_true rfl⟩) hG hN hw hS rfl hl.1 rfl (Nat.le_of_ble_eq_true rfl) dX12_fairs_17 ⟨Nat.le_of_ble_eq_true rfl, Nat.le_of_ble_eq_true rfl⟩ (fun r17 w17 H locs hp17 hw hS => ?_)
    obtain ⟨rfl, rfl⟩ := hp17
    refine xtop (y := bI true) (congrArg bI (wiB_y (by omega) (by omega) (by omega))) ?_
    first | refine xifb_ne (tgt := 26) hx hb dX12_fairs_20 (by decide) (fun c20 => ?_) (fun c20 => ?_) | refine xif_ne (tgt := 26) hx hb dX12_fairs_20 (by decide) (by omega) (fun c20 => ?_) (fun c20 => ?_) | refine lv_if_ne (tgt := 26) hx hb dX12_fairs_20 (by decide) (fun c20 => ?_) (fun c20 => ?_)
    · skip
      refine xaload_n hx hb dX12_fairs_26 hl rfl ?_
      refine xgetM hx hb hts hiX12 hown hG hw (by repeat first | assumption | exact wu_eq _ _ _ | refine wu_ne (by omega) ?_) 1 (by decide) hlnk0 (by repeat first | assumption | exact vu_eq _ _ _ | refine vu_ne (by decide) ?_) dX12_fairs_27 ?_
      first | refine xifb_ne (tgt := 38) hx hb dX12_fairs_30 (by decide) (fun c30 => ?_) (fun c30 => ?_) | refine xif_ne (tgt := 38) hx hb dX12_fairs_30 (by decide) (by omega) (fun c30 => ?_) (fun c30 => ?_) | refine lv_if_ne (tgt := 38) hx hb dX12_fairs_30 (by decide) (fun c30 => ?_) (fun c30 => ?_)
      · skip
        refine xaload_n hx hb dX12_fairs_38 hl rfl ?_
        refine xiload_n hx hb dX12_fairs_39 hl rfl ?_
        refine xiload_n hx hb dX12_fairs_40 hl rfl ?_
        refine xiload_n hx hb dX12_fairs_41 hl rfl ?_
        refine xVi ⟨hx, hb, hml, hown, hts⟩ (kX12_fairsNow l N0 G _ _ V A hM S hR hL hpa (by omega) t d k ht60 hd31 hk3) (cwV 3 hts gX12_fairs_X12_fairsNow rfl rfl rfl (by decide +kernel) ⟨Nat.le_of_ble_eq_true rfl, Nat.le_of_ble_eq_true rfl⟩) hG hN hw hS (ci := 12) (by repeat first | assumption | exact wu_eq _ _ _ | refine wu_ne (by omega) ?_) rfl rfl hl.1 rfl (Nat.le_of_ble_eq_true rfl) dX12_fairs_42 ⟨Nat.le_of_ble_eq_true rfl, Nat.le_of_ble_eq_true rfl⟩ (fun r42 w42 H locs hp42 hw hS => ?_)
        obtain ⟨rfl, ⟨V1, A1, hM1, hR1⟩, hO1⟩ := hp42
        exact xiret hx hb hr hlk hw hS dX12_fairs_45 ⟨by first | exact if_pos c30 | exact if_neg c30, by first | exact ⟨V1, A1, hM1, hR1⟩ | exact ⟨V, A, hM, hR⟩, by first | exact hO1 | exact Out.rf⟩
      · skip
        refine lv_bipush (v := -103) hx hb dX12_fairs_33 (by decide) ?_
        refine lv_goto (tgt := 45) hx hb dX12_fairs_35 (by decide) ?_
        exact xiret hx hb hr hlk hw hS dX12_fairs_45 ⟨by first | exact if_pos c30 | exact if_neg c30, by first | exact ⟨V1, A1, hM1, hR1⟩ | exact ⟨V, A, hM, hR⟩, by first | exact hO1 | exact Out.rf⟩
    · skip
      exfalso
      cases c20
set_option maxHeartbeats 4000000 in
set_option maxRecDepth 100000 in
theorem kX12_fairs_out (l : Launch) (N0 : Nat) (G : XG) (w : Wd) (M0 : Nat) (V : Nat → Value) (A : Nat → Nat → Int32) (hM : MW G w M0 V A) (S : QS) (hR : RM S V A) (hL : WB S) (x y z : Int32) (hout : x < nI 1 ∨ nI 60 < x ∨ y < 0 ∨ z < 0 ∨ nI 2 < z) : XM l yX12_fairs wsX12_fairs (rmD 6) N0 G [.ref M0, .int x, .int y, .int z] w vI (fun r w1 => -102 = r ∧ (∃ V1 A1, MW G w1 M0 V1 A1 ∧ RM (S) V1 A1) ∧ Out w w1 M0 (M0 + 20)) 0 0 := by
  refine XM.of (cc := cX12_fairs) (maxL := 4) (ret := (some .int)) (by decide) rfl (Nat.le_of_ble_eq_true rfl) ?_
  intro p e s m below meth c hx hb hr hlk hin0 hml hown hts hN hw hG hS ls hl
  have hown : s.vm.findClass RX12 = some m.cls := hown
  have hl : lh ls 4 [some (.ref M0), some (.int x), some (.int y), some (.int z)] := hl
  obtain ⟨hm0, ⟨hv3, hv4, hv5, hv6, hv8, hv9, hv11, hv12, hv15, hv18, hv19, hv20, hv24, hv30, hv31, hv32, hv33, hv34, hv35⟩, ha1, ha2, ha3, ha4, ha5, ha6, ha7, ha8, ha9, ha10, ha11, ha12, ha13, ha14, ha15, ha16, ha17, ha18, ha19⟩ := id hM
  obtain ⟨ht, hn, hlm, hdn, hhn, has, hpl, hkw, hRB, hpg, hkp⟩ := id hR
  obtain ⟨hn5, hl5, hkd, hsp, hd6, hdw, hh6, hg18, hgr, hIm⟩ := id hL
  refine xiload_n hx hb dX12_fairs_0 hl rfl ?_
  refine lv_iconst (v := nI 1) hx hb dX12_fairs_1 (by decide) ?_
  refine lv_bipush (v := nI 60) hx hb dX12_fairs_2 (by decide) ?_
  refine xSi ⟨hx, hb, hml, hown, hts⟩ (kX12_within l N0 G _ _ _ _) (va_cwS 3 hts gX12_fairs_X12_within rfl rfl rfl (by decide +kernel) ⟨Nat.le_of_ble_eq_true rfl, Nat.le_of_ble_eq_true rfl⟩) hG hN hw hS rfl hl.1 rfl (Nat.le_of_ble_eq_true rfl) dX12_fairs_4 ⟨Nat.le_of_ble_eq_true rfl, Nat.le_of_ble_eq_true rfl⟩ (fun r4 w4 H locs hp4 hw hS => ?_)
  obtain ⟨rfl, rfl⟩ := hp4
  first | refine xifb_eq (tgt := 23) hx hb dX12_fairs_7 (by decide) (fun c7 => ?_) (fun c7 => ?_) | refine xif_eq (tgt := 23) hx hb dX12_fairs_7 (by decide) (by omega) (fun c7 => ?_) (fun c7 => ?_) | refine lv_if_eq (tgt := 23) hx hb dX12_fairs_7 (by decide) (fun c7 => ?_) (fun c7 => ?_)
  · skip
    refine lv_bipush (v := -102) hx hb dX12_fairs_23 (by decide) ?_
    exact xiret hx hb hr hlk hw hS dX12_fairs_25 ⟨rfl, ⟨V, A, hM, hR⟩, Out.rf⟩
  · skip
    refine xiload_n hx hb dX12_fairs_10 hl rfl ?_
    refine lv_if_lt (tgt := 23) hx hb dX12_fairs_11 (by decide) (fun c11 => ?_) (fun c11 => ?_)
    · skip
      refine lv_bipush (v := -102) hx hb dX12_fairs_23 (by decide) ?_
      exact xiret hx hb hr hlk hw hS dX12_fairs_25 ⟨rfl, ⟨V, A, hM, hR⟩, Out.rf⟩
    · skip
      refine xiload_n hx hb dX12_fairs_14 hl rfl ?_
      refine lv_iconst (v := nI 0) hx hb dX12_fairs_15 (by decide) ?_
      refine lv_iconst (v := nI 2) hx hb dX12_fairs_16 (by decide) ?_
      refine xSi ⟨hx, hb, hml, hown, hts⟩ (kX12_within l N0 G _ _ _ _) (va_cwS 3 hts gX12_fairs_X12_within rfl rfl rfl (by decide +kernel) ⟨Nat.le_of_ble_eq_true rfl, Nat.le_of_ble_eq_true rfl⟩) hG hN hw hS rfl hl.1 rfl (Nat.le_of_ble_eq_true rfl) dX12_fairs_17 ⟨Nat.le_of_ble_eq_true rfl, Nat.le_of_ble_eq_true rfl⟩ (fun r17 w17 H locs hp17 hw hS => ?_)
      obtain ⟨rfl, rfl⟩ := hp17
      first | refine xifb_ne (tgt := 26) hx hb dX12_fairs_20 (by decide) (fun c20 => ?_) (fun c20 => ?_) | refine xif_ne (tgt := 26) hx hb dX12_fairs_20 (by decide) (by omega) (fun c20 => ?_) (fun c20 => ?_) | refine lv_if_ne (tgt := 26) hx hb dX12_fairs_20 (by decide) (fun c20 => ?_) (fun c20 => ?_)
      · skip
        exfalso
        have h7 := of_decide_eq_true c7
        have h20 := of_decide_eq_true c20
        rcases hout with q | q | q | q | q
        · exact h7.1 q
        · exact h7.2 q
        · exact c11 q
        · exact h20.1 q
        · exact h20.2 q
      · skip
        refine lv_bipush (v := -102) hx hb dX12_fairs_23 (by decide) ?_
        exact xiret hx hb hr hlk hw hS dX12_fairs_25 ⟨rfl, ⟨V, A, hM, hR⟩, Out.rf⟩
theorem kX12_fairs (l : Launch) (N0 : Nat) (G : XG) (w : Wd) (M0 : Nat) (V : Nat → Value) (A : Nat → Nat → Int32) (hM : MW G w M0 V A) (S : QS) (hR : RM S V A) (hL : WB S) (hpa : ∀ i, i < sn S → ∀ x ∈ sp S i, x < sn S) (x y z : Int32) : XM l yX12_fairs wsX12_fairs (rmD 6) N0 G [.ref M0, .int x, .int y, .int z] w vI (fun r w1 => v_fairs S x y z = r ∧ (∃ V1 A1, MW G w1 M0 V1 A1 ∧ RM (S) V1 A1) ∧ Out w w1 M0 (M0 + 20)) 0 0 := by
  by_cases hout : x < nI 1 ∨ nI 60 < x ∨ y < 0 ∨ z < 0 ∨ nI 2 < z
  · rw [fairs_out hout]
    exact kX12_fairs_out l N0 G w M0 V A hM S hR hL x y z hout
  · obtain ⟨t, d, k, h1, h2, h3, h4, rfl, rfl, rfl⟩ := fairs_cs hout
    rw [fairs_in h1 h2 h3 h4]
    exact kX12_fairs_in l N0 G w M0 V A hM S hR hL hpa t d k h1 h2 h3 h4
