theorem nar_b (b : Bool) : narrow .boolean (.int (bI b)) = .int (bI b) := by cases b <;> rfl
theorem fit_b (b : Bool) : fits .boolean (.int (bI b)) = true := by cases b <;> rfl
theorem kN_no5 {c : Nat} (h : c ≠ 97 ∧ c ≠ 98 ∧ c ≠ 112 ∧ c ≠ 116 ∧ c ≠ 121) : kN c = none := by
  unfold kN
  rw [if_neg h.2.2.1, if_neg h.2.1, if_neg h.2.2.2.1, if_neg h.2.2.2.2, if_neg h.1]
theorem lk_no : ∀ c, c < 127 → kN c = none → Op.lookupswitch.offset [(97, 59), (98, 53), (112, 51), (116, 55), (121, 57)] 61 (nI c).toInt = 61 := by decide +kernel
theorem s48 : ∀ c, c < 127 → (nI c - nI 48).toInt = (c : Int) - 48 := by decide +kernel
theorem wiB_fig {c lo hi : Nat} (hc : c ≤ 126) (hl : lo ≤ 9) (hh : hi ≤ 9) : wiB (nI c - nI 48) (nI lo) (nI hi) = decide (lo + 48 ≤ c ∧ c ≤ hi + 48) := by
  rw [wiB_ab (by omega) (by omega), s48 c (by omega)]
  congr 1
  exact propext ⟨fun h => ⟨by have := h.1; omega, by have := h.2; omega⟩, fun h => ⟨by have := h.1; omega, by have := h.2; omega⟩⟩
theorem wiB_no {x : Int32} {a b : Int32} (h : ¬ (¬ x < a ∧ x ≤ b)) : wiB x a b = false := decide_eq_false (fun z => h ⟨z.1, Int32.not_lt.mp z.2⟩)
/-- a figure between two -/
def fig (pg : List Nat) (k lo hi : Nat) : Bool := decide (k < pg.length ∧ lo + 48 ≤ pgc pg k ∧ pgc pg k ≤ hi + 48)
def Vr (V V1 : Nat → Value) : Prop := ∀ k, k ≠ 16 → k ≠ 17 → V1 k = V k
theorem Vr.rf {V : Nat → Value} : Vr V V := fun _ _ _ => rfl
theorem Vr.s16 {V V1 : Nat → Value} {x : Value} (h : Vr V V1) : Vr V (vu V1 16 x) := fun k a b => vu_ne a (h k a b)
theorem Vr.s17 {V V1 : Nat → Value} {x : Value} (h : Vr V V1) : Vr V (vu V1 17 x) := fun k a b => vu_ne b (h k a b)
theorem rm_vr {S : QS} {V V1 : Nat → Value} {A : Nat → Nat → Int32} (hR : RM S V A) (h : Vr V V1) : RM S V1 A := by
  obtain ⟨ht, hn, hlm, hdn, hhn, has, hpl, hkw, hRB, hpg, b, kt, h26, h27, hkt, hk1, hk2⟩ := hR
  have v : ∀ k, k < 16 ∨ 17 < k → V1 k = V k := fun k hk => h k (by omega) (by omega)
  refine ⟨(v 0 (by omega)).trans ht, (v 1 (by omega)).trans hn, (v 2 (by omega)).trans hlm, (v 7 (by omega)).trans hdn, (v 10 (by omega)).trans hhn, (v 13 (by omega)).trans has, (v 14 (by omega)).trans hpl, hkw, hRB, hpg, b, kt, (v 26 (by omega)).trans h26, (v 27 (by omega)).trans h27, hkt, hk1, fun B hB => ?_⟩
  obtain ⟨q1, q2, q3, q4, q5⟩ := hk2 B hB
  exact ⟨q1, q2, (v 28 (by omega)).trans q3, (v 29 (by omega)).trans q4, q5⟩
theorem oI_m1 {c : Nat} (h : oI (kN c) = -1) : (kN c).isSome = false := by
  cases hk : kN c with
  | none => rfl
  | some k => rw [hk] at h; exact absurd h (nI_nm1 (by have := kN_lt hk; omega))
theorem oI_nm1 {c : Nat} (h : ¬ oI (kN c) = -1) : (kN c).isSome = true := by
  cases hk : kN c with
  | none => rw [hk] at h; exact absurd rfl h
  | some k => rfl
theorem rd_e2 {pg : List Nat} {m : Nat} (hok : okB pg (3 * m + 1)) (h : fig pg (3 * m + 1) 0 9 = false) : ff pg pg.length 0 = 3 * m + 1 ∧ isT pg = false := by
  have h1 := of_decide_eq_false h
  have h2 := hok.1
  rcases (show 3 * m + 1 = pg.length ∨ 3 * m + 1 < pg.length by omega) with q | q
  · exact rd_end hok q
  · exact rd_no hok q (by rw [fitP1]; exact decide_eq_false (fun z => h1 ⟨q, by omega, by omega⟩))
theorem rd_e3y {pg : List Nat} {m : Nat} (hok : okB pg (3 * m + 2)) (hi : 3 * m + 2 < pg.length) (h59 : pgc pg (3 * m + 2) = 59) (hm : 1 ≤ m) (h : fig pg (3 * m + 2 + 1) 1 5 = true) : ff pg pg.length 0 = 3 * m + 2 + 2 ∧ isT pg = decide (3 * m + 2 + 2 = pg.length) := by
  have h1 := of_decide_eq_true h
  exact rd_lim hok hi (by rw [fitP2]; exact decide_eq_true (Or.inr ⟨h59, by omega⟩)) h59 h1.1 (decide_eq_true ⟨by omega, by omega⟩)
theorem rd_e3n {pg : List Nat} {m : Nat} (hok : okB pg (3 * m + 2)) (hi : 3 * m + 2 < pg.length) (h59 : pgc pg (3 * m + 2) = 59) (hm : 1 ≤ m) (h : fig pg (3 * m + 2 + 1) 1 5 = false) : ff pg pg.length 0 = 3 * m + 2 + 1 ∧ isT pg = false := by
  have h1 := of_decide_eq_false h
  refine rd_nl hok hi (by rw [fitP2]; exact decide_eq_true (Or.inr ⟨h59, by omega⟩)) h59 (fun z => h1 ⟨z.1, ?_⟩)
  have h2 := of_decide_eq_true z.2
  omega
theorem rd_e4 {pg : List Nat} {m : Nat} (hok : okB pg (3 * m + 2)) (h : 3 * m + 2 = pg.length ∨ (pgc pg (3 * m + 2) ≠ 59 ∨ m = 0) ∧ (pgc pg (3 * m + 2) ≠ 44 ∨ m + 1 = 5)) : ff pg pg.length 0 = 3 * m + 2 ∧ isT pg = false := by
  have h2 := hok.1
  rcases (show 3 * m + 2 = pg.length ∨ 3 * m + 2 < pg.length by omega) with q | q
  · exact rd_end hok q
  · exact rd_no hok q (by rw [fitP2]; exact decide_eq_false (by omega))
theorem rd_17 {pg : List Nat} {m e f : Nat} {b : Bool} (hrd : (b = true ∧ f = e ∧ isT pg = decide (3 * m + 2 + 2 = pg.length)) ∨ (b = false ∧ f = 3 * m + 2 + 1 ∧ isT pg = false)) (z : isT pg = true) : m + 1 = pg.length / 3 := by
  rcases hrd with q | q
  · have h8 := of_decide_eq_true (q.2.2.symm.trans z)
    omega
  · exact absurd (q.2.2.symm.trans z) (by decide)
theorem rm_letter {S : QS} {V : Nat → Value} {A : Nat → Nat → Int32} {i : Nat} (hR : RM S V A) (hi : i < 127) : RM (sg S ++ [i], S.2) (vu V 14 (.int (nI ((sg S).length + 1)))) (va_up A 9 (upd (A 9) (sg S).length (vp_nar .byte (nI i)))) := by
  obtain ⟨ht, hn, hlm, hdn, hhn, has, hpl, hkw, hRB, hpg, b, kt, h26, h27, hkt, hk1, hk2⟩ := hR
  refine ⟨ht, hn, hlm, hdn, hhn, has, (vu_eq _ _ _).trans (by show _ = Value.int (nI (sg S ++ [i]).length); rw [List.length_append]; rfl), hkw, hRB, fun j hj => ?_, b, kt, h26, h27, hkt, hk1, hk2⟩
  have hj : j < (sg S ++ [i]).length := hj
  rw [List.length_append, List.length_singleton] at hj
  show va_up A 9 _ 9 j = nI (pgc (sg S ++ [i]) j)
  rw [vup_eq]
  by_cases q : j = (sg S).length
  · rw [q, upd_at, pgc_last]; exact nI_i2b (by omega)
  · rw [upd_no q, pgc_app (by omega)]; exact hpg j (by omega)
set_option maxHeartbeats 4000000 in
set_option maxRecDepth 100000 in
theorem kX12_kindBy (l : Launch) (N0 : Nat) (G : XG) (w : Wd) (c0 : Nat) (hc : c0 ≤ 126) : XM l yX12_kindBy wsX12_kindBy (rmD 1) N0 G [.int (nI c0)] w vI (fun r w1 => oI (kN c0) = r ∧ w = w1) 0 0 := by
  refine XM.of (cc := cX12_kindBy) (maxL := 1) (ret := (some .int)) (by decide) rfl (Nat.le_of_ble_eq_true rfl) ?_
  intro p e s m below meth c hx hb hr hlk hin0 hml hown hts hN hw hG hS ls hl
  have hown : s.vm.findClass RX12 = some m.cls := hown
  have hl : lh ls 1 [some (.int (nI c0))] := hl
  refine xiload_n hx hb dX12_kindBy_0 hl rfl ?_
  rcases (show c0 = 97 ∨ c0 = 98 ∨ c0 = 112 ∨ c0 = 116 ∨ c0 = 121 ∨ (c0 ≠ 97 ∧ c0 ≠ 98 ∧ c0 ≠ 112 ∧ c0 ≠ 116 ∧ c0 ≠ 121) by omega) with rfl | rfl | rfl | rfl | rfl | hno
  · skip
    refine lv_lookup (off := 59) (tgt := 60) hx hb dX12_kindBy_1 (by decide) (by decide) (by decide) ?_
    refine lv_iconst (v := nI 4) hx hb dX12_kindBy_60 (by decide) ?_
    exact xiret hx hb hr hlk hw hS dX12_kindBy_61 ⟨by first | rfl | (rw [hkn]; rfl), rfl⟩
  · skip
    refine lv_lookup (off := 53) (tgt := 54) hx hb dX12_kindBy_1 (by decide) (by decide) (by decide) ?_
    refine lv_iconst (v := nI 1) hx hb dX12_kindBy_54 (by decide) ?_
    exact xiret hx hb hr hlk hw hS dX12_kindBy_55 ⟨by first | rfl | (rw [hkn]; rfl), rfl⟩
  · skip
    refine lv_lookup (off := 51) (tgt := 52) hx hb dX12_kindBy_1 (by decide) (by decide) (by decide) ?_
    refine lv_iconst (v := nI 0) hx hb dX12_kindBy_52 (by decide) ?_
    exact xiret hx hb hr hlk hw hS dX12_kindBy_53 ⟨by first | rfl | (rw [hkn]; rfl), rfl⟩
  · skip
    refine lv_lookup (off := 55) (tgt := 56) hx hb dX12_kindBy_1 (by decide) (by decide) (by decide) ?_
    refine lv_iconst (v := nI 2) hx hb dX12_kindBy_56 (by decide) ?_
    exact xiret hx hb hr hlk hw hS dX12_kindBy_57 ⟨by first | rfl | (rw [hkn]; rfl), rfl⟩
  · skip
    refine lv_lookup (off := 57) (tgt := 58) hx hb dX12_kindBy_1 (by decide) (by decide) (by decide) ?_
    refine lv_iconst (v := nI 3) hx hb dX12_kindBy_58 (by decide) ?_
    exact xiret hx hb hr hlk hw hS dX12_kindBy_59 ⟨by first | rfl | (rw [hkn]; rfl), rfl⟩
  · skip
    have hkn := kN_no5 hno
    refine lv_lookup (off := 61) (tgt := 62) hx hb dX12_kindBy_1 (by decide) (lk_no c0 (by omega) hkn) (by decide) ?_
    refine lv_iconst (v := -1) hx hb dX12_kindBy_62 (by decide) ?_
    exact xiret hx hb hr hlk hw hS dX12_kindBy_63 ⟨by first | rfl | (rw [hkn]; rfl), rfl⟩
set_option maxHeartbeats 4000000 in
set_option maxRecDepth 100000 in
theorem kX12_isFigure (l : Launch) (N0 : Nat) (G : XG) (w : Wd) (M0 : Nat) (V : Nat → Value) (A : Nat → Nat → Int32) (hM : MW G w M0 V A) (S : QS) (hR : RM S V A) (hL : WB S) (k lo hi : Nat) (hk : k < 100) (hlh : lo ≤ 9 ∧ hi ≤ 9) : XM l yX12_isFigure wsX12_isFigure (rmD 2) N0 G [.ref M0, .int (nI k), .int (nI lo), .int (nI hi)] w vI (fun r w1 => bI (fig (sg S) k lo hi) = r ∧ w = w1) 0 0 := by
  refine XM.of (cc := cX12_isFigure) (maxL := 4) (ret := (some .boolean)) (by decide) rfl (Nat.le_of_ble_eq_true rfl) ?_
  intro p e s m below meth c hx hb hr hlk hin0 hml hown hts hN hw hG hS ls hl
  have hown : s.vm.findClass RX12 = some m.cls := hown
  have hiX12 : ∀ x ∈ u_ws RX12 TX12 37, x ∈ wsX12_isFigure := by decide +kernel
  have hlnk0 := hts (.fieldLink RX12 72 "LentQuillModel" "pageLength" "I") (by decide +kernel)
  have hlnk1 := hts (.fieldLink RX12 34 "LentQuillModel" "page" "[B") (by decide +kernel)
  have hl : lh ls 4 [some (.ref M0), some (.int (nI k)), some (.int (nI lo)), some (.int (nI hi))] := hl
  obtain ⟨hm0, ⟨hv3, hv4, hv5, hv6, hv8, hv9, hv11, hv12, hv15, hv18, hv19, hv20, hv24, hv30, hv31, hv32, hv33, hv34, hv35⟩, ha1, ha2, ha3, ha4, ha5, ha6, ha7, ha8, ha9, ha10, ha11, ha12, ha13, ha14, ha15, ha16, ha17, ha18, ha19⟩ := id hM
  obtain ⟨ht, hn, hlm, hdn, hhn, has, hpl, hkw, hRB, hpg, hkp⟩ := id hR
  obtain ⟨hn5, hl5, hkd, hsp, hd6, hdw, hh6, hg18, hgr, hIm⟩ := id hL
  refine xiload_n hx hb dX12_isFigure_0 hl rfl ?_
  refine xaload_n hx hb dX12_isFigure_1 hl rfl ?_
  refine xgetM hx hb hts hiX12 hown hG hw (by repeat first | assumption | exact wu_eq _ _ _ | refine wu_ne (by omega) ?_) 14 (by decide) hlnk0 (by repeat first | assumption | exact vu_eq _ _ _ | refine vu_ne (by decide) ?_) dX12_isFigure_2 ?_
  first | refine xcmp_ge (tgt := 29) hx hb dX12_isFigure_5 (by decide) (by omega) (by omega) (fun c5 => ?_) (fun c5 => ?_) | refine lv_icmp_ge (tgt := 29) hx hb dX12_isFigure_5 (by decide) (fun c5 => ?_) (fun c5 => ?_)
  · skip
    refine lv_iconst (v := nI 0) hx hb dX12_isFigure_29 (by decide) ?_
    first | exact xzret hx hb hr hlk hw hS dX12_isFigure_30 true rfl ⟨congrArg bI (decide_eq_true ⟨by omega, of_decide_eq_true c22⟩), rfl⟩ | exact xzret hx hb hr hlk hw hS dX12_isFigure_30 false rfl ⟨congrArg bI (decide_eq_false (fun z => by first | (have := z.1; omega) | exact absurd z.2 (of_decide_eq_false c22))), rfl⟩
  · skip
    have hgk := hgr k (by omega)
    refine xaload_n hx hb dX12_isFigure_8 hl rfl ?_
    refine xgetM hx hb hts hiX12 hown hG hw (by repeat first | assumption | exact wu_eq _ _ _ | refine wu_ne (by omega) ?_) 15 (by decide) hlnk1 (by repeat first | assumption | exact vu_eq _ _ _ | refine vu_ne (by decide) ?_) dX12_isFigure_9 ?_
    refine xiload_n hx hb dX12_isFigure_12 hl rfl ?_
    refine xbald hx hb hG hw (by repeat first | assumption | exact wu_eq _ _ _ | refine wu_ne (by omega) ?_) (by omega) (by omega) dX12_isFigure_13 ?_
    refine xtop (hpg k (by omega)) ?_
    refine lv_bipush (v := nI 48) hx hb dX12_isFigure_14 (by decide) ?_
    first | refine xsub hx hb dX12_isFigure_16 (by omega) ?_ | refine lv_isub hx hb dX12_isFigure_16 ?_
    refine xiload_n hx hb dX12_isFigure_17 hl rfl ?_
    refine xiload_n hx hb dX12_isFigure_18 hl rfl ?_
    refine xSi ⟨hx, hb, hml, hown, hts⟩ (kX12_within l N0 G _ _ _ _) (va_cwS 3 hts gX12_isFigure_X12_within rfl rfl rfl (by decide +kernel) ⟨Nat.le_of_ble_eq_true rfl, Nat.le_of_ble_eq_true rfl⟩) hG hN hw hS rfl hl.1 rfl (Nat.le_of_ble_eq_true rfl) dX12_isFigure_19 ⟨Nat.le_of_ble_eq_true rfl, Nat.le_of_ble_eq_true rfl⟩ (fun r19 w19 H locs hp19 hw hS => ?_)
    obtain ⟨rfl, rfl⟩ := hp19
    refine xtop (congrArg bI (wiB_fig (by omega) (by omega) (by omega))) ?_
    first | refine xifb_eq (tgt := 29) hx hb dX12_isFigure_22 (by decide) (fun c22 => ?_) (fun c22 => ?_) | refine xif_eq (tgt := 29) hx hb dX12_isFigure_22 (by decide) (by omega) (fun c22 => ?_) (fun c22 => ?_) | refine lv_if_eq (tgt := 29) hx hb dX12_isFigure_22 (by decide) (fun c22 => ?_) (fun c22 => ?_)
    · skip
      refine lv_iconst (v := nI 0) hx hb dX12_isFigure_29 (by decide) ?_
      first | exact xzret hx hb hr hlk hw hS dX12_isFigure_30 true rfl ⟨congrArg bI (decide_eq_true ⟨by omega, of_decide_eq_true c22⟩), rfl⟩ | exact xzret hx hb hr hlk hw hS dX12_isFigure_30 false rfl ⟨congrArg bI (decide_eq_false (fun z => by first | (have := z.1; omega) | exact absurd z.2 (of_decide_eq_false c22))), rfl⟩
    · skip
      refine lv_iconst (v := nI 1) hx hb dX12_isFigure_25 (by decide) ?_
      refine lv_goto (tgt := 30) hx hb dX12_isFigure_26 (by decide) ?_
      first | exact xzret hx hb hr hlk hw hS dX12_isFigure_30 true rfl ⟨congrArg bI (decide_eq_true ⟨by omega, of_decide_eq_true c22⟩), rfl⟩ | exact xzret hx hb hr hlk hw hS dX12_isFigure_30 false rfl ⟨congrArg bI (decide_eq_false (fun z => by first | (have := z.1; omega) | exact absurd z.2 (of_decide_eq_false c22))), rfl⟩
set_option maxHeartbeats 4000000 in
set_option maxRecDepth 100000 in
theorem kX12_read (l : Launch) (N0 : Nat) (G : XG) (w : Wd) (M0 : Nat) (V : Nat → Value) (A : Nat → Nat → Int32) (hM : MW G w M0 V A) (S : QS) (hR : RM S V A) (hL : WB S) : XM l yX12_read wsX12_read (rmD 3) N0 G [.ref M0] w vI (fun r w1 => nI (ff (sg S) (sg S).length 0) = r ∧ ∃ V1, Vr V V1 ∧ V1 16 = .int (bI (isT (sg S))) ∧ (isT (sg S) = true → V1 17 = .int (nI ((sg S).length / 3))) ∧ MW G w1 M0 V1 A ∧ Out w w1 M0 (M0 + 20)) 0 0 := by
  refine XM.of (cc := cX12_read) (maxL := 2) (ret := (some .int)) (by decide) rfl (Nat.le_of_ble_eq_true rfl) ?_
  intro p e s m below meth c hx hb hr hlk hin0 hml hown hts hN hw hG hS ls hl
  have hown : s.vm.findClass RX12 = some m.cls := hown
  have hiX12 : ∀ x ∈ u_ws RX12 TX12 37, x ∈ wsX12_read := by decide +kernel
  have hlnk0 := hts (.fieldLink RX12 76 "LentQuillModel" "isWhole" "Z") (by decide +kernel)
  have hlnk1 := hts (.fieldLink RX12 80 "LentQuillModel" "newMany" "I") (by decide +kernel)
  have hlnk2 := hts (.fieldLink RX12 72 "LentQuillModel" "pageLength" "I") (by decide +kernel)
  have hlnk3 := hts (.fieldLink RX12 34 "LentQuillModel" "page" "[B") (by decide +kernel)
  have hl : lh ls 2 [some (.ref M0), none] := hl
  obtain ⟨hm0, ⟨hv3, hv4, hv5, hv6, hv8, hv9, hv11, hv12, hv15, hv18, hv19, hv20, hv24, hv30, hv31, hv32, hv33, hv34, hv35⟩, ha1, ha2, ha3, ha4, ha5, ha6, ha7, ha8, ha9, ha10, ha11, ha12, ha13, ha14, ha15, ha16, ha17, ha18, ha19⟩ := id hM
  obtain ⟨ht, hn, hlm, hdn, hhn, has, hpl, hkw, hRB, hpg, hkp⟩ := id hR
  obtain ⟨hn5, hl5, hkd, hsp, hd6, hdw, hh6, hg18, hgr, hIm⟩ := id hL
  refine xaload_n hx hb dX12_read_0 hl rfl ?_
  refine lv_iconst (v := nI 0) hx hb dX12_read_1 (by decide) ?_
  refine xputM (ty := .boolean) hx hb hts hiX12 hown hG hw hS (by repeat first | assumption | exact wu_eq _ _ _ | refine wu_ne (by omega) ?_) 16 (by decide) hlnk0 rfl (by decide +kernel) rfl rfl dX12_read_2 (fun H locs hzz hw hS => ?_)
  refine xaload_n hx hb dX12_read_5 hl rfl ?_
  refine lv_iconst (v := nI 0) hx hb dX12_read_6 (by decide) ?_
  refine xputM (ty := .int) hx hb hts hiX12 hown hG hw hS (by repeat first | assumption | exact wu_eq _ _ _ | refine wu_ne (by omega) ?_) 17 (by decide) hlnk1 rfl (by decide +kernel) rfl rfl dX12_read_7 (fun H locs hzz hw hS => ?_)
  refine lv_iconst (v := nI 0) hx hb dX12_read_10 (by decide) ?_
  refine xistore_n hx hb dX12_read_11 hl (by decide) rfl (fun ls hl => ?_)
  have loop12 : ∀ (nf : Nat) (m1 : Nat) (V1 : Nat → Value) (w1 : Wd) (H : Heap) (locs : List Loc) (ls : Array Slot), 5 - m1 < nf → (m1 ≤ 4) → (okB (sg S) (3 * m1)) → (Vr V V1) → (V1 16 = .int (nI 0)) → (V1 17 = .int (nI m1)) → (MW G w1 M0 V1 A) → (Out w w1 M0 (M0 + 20)) → PW N0 G w1 H → va_S (fun q => N0 ≤ q) s.heap H locs → lh ls 2 [some (.ref M0), some (.int (nI (3 * m1)))] → W p l e (rmD 3) s m ([.ref M0] : List Value).toArray below meth c H locs 0 0 (MQ below (XQ N0 G vI (fun r w1 => nI (ff (sg S) (sg S).length 0) = r ∧ ∃ V1, Vr V V1 ∧ V1 16 = .int (bI (isT (sg S))) ∧ (isT (sg S) = true → V1 17 = .int (nI ((sg S).length / 3))) ∧ MW G w1 M0 V1 A ∧ Out w w1 M0 (M0 + 20))) ([.ref M0] : List Value).toArray s 0 0 (fun q => N0 ≤ q)) (F0 m 12 ls []) := by
    intro nf
    induction nf with
    | zero => intros; omega
    | succ nf ih12 =>
      intro m1 V1 w1 H locs ls hnf hm hok hV1 h16 h17 hM1 hO1 hw hS hl
      obtain ⟨hm0z, ⟨hv3z, hv4z, hv5z, hv6z, hv8z, hv9z, hv11z, hv12z, hv15z, hv18z, hv19z, hv20z, hv24z, hv30z, hv31z, hv32z, hv33z, hv34z, hv35z⟩, ha1z, ha2z, ha3z, ha4z, ha5z, ha6z, ha7z, ha8z, ha9z, ha10z, ha11z, ha12z, ha13z, ha14z, ha15z, ha16z, ha17z, ha18z, ha19z⟩ := id hM1
      have h14 : V1 14 = .int (nI (sg S).length) := (hV1 14 (by decide) (by decide)).trans hpl
      have hR1 := rm_vr hR hV1
      have hoklen := hok.1
      refine xaload_n hx hb dX12_read_12 hl rfl ?_
      refine xgetM hx hb hts hiX12 hown hG hw (by repeat first | assumption | exact wu_eq _ _ _ | refine wu_ne (by omega) ?_) 17 (by decide) hlnk1 (by repeat first | assumption | exact vu_eq _ _ _ | refine vu_ne (by decide) ?_) dX12_read_13 ?_
      refine lv_iconst (v := nI 5) hx hb dX12_read_16 (by decide) ?_
      first | refine xcmp_ge (tgt := 188) hx hb dX12_read_17 (by decide) (by omega) (by omega) (fun c17 => ?_) (fun c17 => ?_) | refine lv_icmp_ge (tgt := 188) hx hb dX12_read_17 (by decide) (fun c17 => ?_) (fun c17 => ?_)
      · skip
        exfalso
        omega
      · skip
        refine xiload_n hx hb dX12_read_20 hl rfl ?_
        refine xaload_n hx hb dX12_read_21 hl rfl ?_
        refine xgetM hx hb hts hiX12 hown hG hw (by repeat first | assumption | exact wu_eq _ _ _ | refine wu_ne (by omega) ?_) 14 (by decide) hlnk2 (by repeat first | assumption | exact vu_eq _ _ _ | refine vu_ne (by decide) ?_) dX12_read_22 ?_
        first | refine xcmp_eq (tgt := 41) hx hb dX12_read_25 (by decide) (by omega) (by omega) (fun c25 => ?_) (fun c25 => ?_) | refine lv_icmp_eq (tgt := 41) hx hb dX12_read_25 (by decide) (fun c25 => ?_) (fun c25 => ?_)
        · skip
          have hrd : ff (sg S) (sg S).length 0 = 3 * m1 ∧ isT (sg S) = false := by first | exact rd_end hok c25 | exact rd_no hok (by omega) (by rw [fitP0]; exact oI_m1 c38)
          refine xiload_n hx hb dX12_read_41 hl rfl ?_
          exact xiret hx hb hr hlk hw hS dX12_read_42 ⟨congrArg nI hrd.1, _, hV1, by rw [hrd.2]; exact h16, fun z => absurd (hrd.2.symm.trans z) (by decide), hM1, hO1⟩
        · skip
          have hgk := hgr (3 * m1) (by omega)
          refine xaload_n hx hb dX12_read_28 hl rfl ?_
          refine xgetM hx hb hts hiX12 hown hG hw (by repeat first | assumption | exact wu_eq _ _ _ | refine wu_ne (by omega) ?_) 15 (by decide) hlnk3 (by repeat first | assumption | exact vu_eq _ _ _ | refine vu_ne (by decide) ?_) dX12_read_29 ?_
          refine xiload_n hx hb dX12_read_32 hl rfl ?_
          refine xbald hx hb hG hw (by repeat first | assumption | exact wu_eq _ _ _ | refine wu_ne (by omega) ?_) (by omega) (by omega) dX12_read_33 ?_
          refine xtop (hpg (3 * m1) (by omega)) ?_
          refine xSi ⟨hx, hb, hml, hown, hts⟩ (kX12_kindBy l N0 G _ _ (by omega)) (va_cwS 1 hts gX12_read_X12_kindBy rfl rfl rfl (by decide +kernel) ⟨Nat.le_of_ble_eq_true rfl, Nat.le_of_ble_eq_true rfl⟩) hG hN hw hS rfl hl.1 rfl (Nat.le_of_ble_eq_true rfl) dX12_read_34 ⟨Nat.le_of_ble_eq_true rfl, Nat.le_of_ble_eq_true rfl⟩ (fun r34 w34 H locs hp34 hw hS => ?_)
          obtain ⟨rfl, rfl⟩ := hp34
          refine lv_iconst (v := -1) hx hb dX12_read_37 (by decide) ?_
          refine lv_icmp_ne (tgt := 43) hx hb dX12_read_38 (by decide) (fun c38 => ?_) (fun c38 => ?_)
          · skip
            have hksome := oI_nm1 c38
            have hok1 := okB_s hok (by omega) (by rw [fitP0]; exact hksome) (kN_59 hksome)
            refine xaload_n hx hb dX12_read_43 hl rfl ?_
            refine xiload_n hx hb dX12_read_44 hl rfl ?_
            refine lv_iconst (v := nI 1) hx hb dX12_read_45 (by decide) ?_
            first | refine xadd hx hb dX12_read_46 ?_ | refine lv_iadd hx hb dX12_read_46 ?_
            refine lv_iconst (v := nI 0) hx hb dX12_read_47 (by decide) ?_
            refine lv_bipush (v := nI 9) hx hb dX12_read_48 (by decide) ?_
            refine xVi ⟨hx, hb, hml, hown, hts⟩ (kX12_isFigure l N0 G _ _ V1 A hM1 S hR1 hL (3 * m1 + 1) 0 9 (by omega) ⟨by omega, by omega⟩) (cwV 3 hts gX12_read_X12_isFigure rfl rfl rfl (by decide +kernel) ⟨Nat.le_of_ble_eq_true rfl, Nat.le_of_ble_eq_true rfl⟩) hG hN hw hS (ci := 12) hM1.1 rfl rfl hl.1 rfl (Nat.le_of_ble_eq_true rfl) dX12_read_50 ⟨Nat.le_of_ble_eq_true rfl, Nat.le_of_ble_eq_true rfl⟩ (fun r50 w50 H locs hp50 hw hS => ?_)
            obtain ⟨rfl, rfl⟩ := hp50
            first | refine xifb_ne (tgt := 60) hx hb dX12_read_53 (by decide) (fun c53 => ?_) (fun c53 => ?_) | refine xif_ne (tgt := 60) hx hb dX12_read_53 (by decide) (by omega) (fun c53 => ?_) (fun c53 => ?_) | refine lv_if_ne (tgt := 60) hx hb dX12_read_53 (by decide) (fun c53 => ?_) (fun c53 => ?_)
            · skip
              have hfg := of_decide_eq_true c53
              have hok2 := okB_s hok1 (by omega) (by rw [fitP1]; exact decide_eq_true ⟨by omega, by omega⟩) (by omega)
              have hok2l := hok2.1
              refine xaload_n hx hb dX12_read_60 hl rfl ?_
              refine lv_dup hx hb dX12_read_61 rfl ?_
              refine xgetM hx hb hts hiX12 hown hG hw (by repeat first | assumption | exact wu_eq _ _ _ | refine wu_ne (by omega) ?_) 17 (by decide) hlnk1 (by repeat first | assumption | exact vu_eq _ _ _ | refine vu_ne (by decide) ?_) dX12_read_62 ?_
              refine lv_iconst (v := nI 1) hx hb dX12_read_65 (by decide) ?_
              first | refine xadd hx hb dX12_read_66 ?_ | refine lv_iadd hx hb dX12_read_66 ?_
              refine xputM (ty := .int) hx hb hts hiX12 hown hG hw hS (by repeat first | assumption | exact wu_eq _ _ _ | refine wu_ne (by omega) ?_) 17 (by decide) hlnk1 rfl (by decide +kernel) rfl rfl dX12_read_67 (fun H locs hzz hw hS => ?_)
              have hM2 := hM1.put (k := 17) (.int (nI (m1 + 1))) (by decide)
              have hV2 : Vr V (vu V1 17 (.int (nI (m1 + 1)))) := hV1.s17
              have hR2 := rm_vr hR hV2
              have hO2 := hO1.wu (e := eO 12 (mfl (vu V1 17 (.int (nI (m1 + 1)))))) (show M0 ≤ M0 by omega) (show M0 < M0 + 20 by omega)
              first | refine xiincN hx hb 2 dX12_read_70 hl rfl (by decide) (by decide) rfl (fun ls hl => ?_) | refine xiinc hx hb dX12_read_70 hl rfl rfl (by decide) rfl (fun ls hl => ?_)
              refine xiload_n hx hb dX12_read_73 hl rfl ?_
              refine xaload_n hx hb dX12_read_74 hl rfl ?_
              refine xgetM hx hb hts hiX12 hown hG hw (by repeat first | assumption | exact wu_eq _ _ _ | refine wu_ne (by omega) ?_) 14 (by decide) hlnk2 (by repeat first | assumption | exact vu_eq _ _ _ | refine vu_ne (by decide) ?_) dX12_read_75 ?_
              first | refine xcmp_ge (tgt := 153) hx hb dX12_read_78 (by decide) (by omega) (by omega) (fun c78 => ?_) (fun c78 => ?_) | refine lv_icmp_ge (tgt := 153) hx hb dX12_read_78 (by decide) (fun c78 => ?_) (fun c78 => ?_)
              · skip
                refine xiload_n hx hb dX12_read_153 hl rfl ?_
                refine xaload_n hx hb dX12_read_154 hl rfl ?_
                refine xgetM hx hb hts hiX12 hown hG hw (by repeat first | assumption | exact wu_eq _ _ _ | refine wu_ne (by omega) ?_) 14 (by decide) hlnk2 (by repeat first | assumption | exact vu_eq _ _ _ | refine vu_ne (by decide) ?_) dX12_read_155 ?_
                first | refine xcmp_eq (tgt := 180) hx hb dX12_read_158 (by decide) (by omega) (by omega) (fun c158 => ?_) (fun c158 => ?_) | refine lv_icmp_eq (tgt := 180) hx hb dX12_read_158 (by decide) (fun c158 => ?_) (fun c158 => ?_)
                · skip
                  refine xiload_n hx hb dX12_read_180 hl rfl ?_
                  have hrd := rd_e4 hok2 (by omega)
                  exact xiret hx hb hr hlk hw hS dX12_read_181 ⟨congrArg nI hrd.1, _, hV2, by rw [hrd.2]; exact vu_ne (by decide) h16, fun z => absurd (hrd.2.symm.trans z) (by decide), hM2, hO2⟩
                · skip
                  refine xaload_n hx hb dX12_read_161 hl rfl ?_
                  refine xgetM hx hb hts hiX12 hown hG hw (by repeat first | assumption | exact wu_eq _ _ _ | refine wu_ne (by omega) ?_) 17 (by decide) hlnk1 (by repeat first | assumption | exact vu_eq _ _ _ | refine vu_ne (by decide) ?_) dX12_read_162 ?_
                  refine lv_iconst (v := nI 5) hx hb dX12_read_165 (by decide) ?_
                  first | refine xcmp_eq (tgt := 180) hx hb dX12_read_166 (by decide) (by omega) (by omega) (fun c166 => ?_) (fun c166 => ?_) | refine lv_icmp_eq (tgt := 180) hx hb dX12_read_166 (by decide) (fun c166 => ?_) (fun c166 => ?_)
                  · skip
                    refine xiload_n hx hb dX12_read_180 hl rfl ?_
                    have hrd := rd_e4 hok2 (by omega)
                    exact xiret hx hb hr hlk hw hS dX12_read_181 ⟨congrArg nI hrd.1, _, hV2, by rw [hrd.2]; exact vu_ne (by decide) h16, fun z => absurd (hrd.2.symm.trans z) (by decide), hM2, hO2⟩
                  · skip
                    have hgk2 := hgr (3 * m1 + 2) (by omega)
                    refine xaload_n hx hb dX12_read_169 hl rfl ?_
                    refine xgetM hx hb hts hiX12 hown hG hw (by repeat first | assumption | exact wu_eq _ _ _ | refine wu_ne (by omega) ?_) 15 (by decide) hlnk3 (by repeat first | assumption | exact vu_eq _ _ _ | refine vu_ne (by decide) ?_) dX12_read_170 ?_
                    refine xiload_n hx hb dX12_read_173 hl rfl ?_
                    refine xbald hx hb hG hw (by repeat first | assumption | exact wu_eq _ _ _ | refine wu_ne (by omega) ?_) (by omega) (by omega) dX12_read_174 ?_
                    refine xtop (hpg (3 * m1 + 2) (by omega)) ?_
                    refine lv_bipush (v := nI 44) hx hb dX12_read_175 (by decide) ?_
                    first | refine xcmp_eq (tgt := 182) hx hb dX12_read_177 (by decide) (by omega) (by omega) (fun c177 => ?_) (fun c177 => ?_) | refine lv_icmp_eq (tgt := 182) hx hb dX12_read_177 (by decide) (fun c177 => ?_) (fun c177 => ?_)
                    · skip
                      first | refine xiincN hx hb 1 dX12_read_182 hl rfl (by decide) (by decide) rfl (fun ls hl => ?_) | refine xiinc hx hb dX12_read_182 hl rfl rfl (by decide) rfl (fun ls hl => ?_)
                      refine lv_goto (tgt := 12) hx hb dX12_read_185 (by decide) ?_
                      exact ih12 (m1 + 1) _ _ _ _ _ (by omega) (by omega) (by rw [show 3 * (m1 + 1) = 3 * m1 + 2 + 1 by omega]; exact okB_s hok2 (by omega) (by rw [fitP2]; exact decide_eq_true (Or.inl ⟨c177, by omega⟩)) (by omega)) hV1.s17 (vu_ne (by decide) h16) (vu_eq _ _ _) hM2 hO2 hw hS hl
                    · skip
                      refine xiload_n hx hb dX12_read_180 hl rfl ?_
                      have hrd := rd_e4 hok2 (by omega)
                      exact xiret hx hb hr hlk hw hS dX12_read_181 ⟨congrArg nI hrd.1, _, hV2, by rw [hrd.2]; exact vu_ne (by decide) h16, fun z => absurd (hrd.2.symm.trans z) (by decide), hM2, hO2⟩
              · skip
                have hgk2 := hgr (3 * m1 + 2) (by omega)
                refine xaload_n hx hb dX12_read_81 hl rfl ?_
                refine xgetM hx hb hts hiX12 hown hG hw (by repeat first | assumption | exact wu_eq _ _ _ | refine wu_ne (by omega) ?_) 15 (by decide) hlnk3 (by repeat first | assumption | exact vu_eq _ _ _ | refine vu_ne (by decide) ?_) dX12_read_82 ?_
                refine xiload_n hx hb dX12_read_85 hl rfl ?_
                refine xbald hx hb hG hw (by repeat first | assumption | exact wu_eq _ _ _ | refine wu_ne (by omega) ?_) (by omega) (by omega) dX12_read_86 ?_
                refine xtop (hpg (3 * m1 + 2) (by omega)) ?_
                refine lv_bipush (v := nI 59) hx hb dX12_read_87 (by decide) ?_
                first | refine xcmp_ne (tgt := 153) hx hb dX12_read_89 (by decide) (by omega) (by omega) (fun c89 => ?_) (fun c89 => ?_) | refine lv_icmp_ne (tgt := 153) hx hb dX12_read_89 (by decide) (fun c89 => ?_) (fun c89 => ?_)
                · skip
                  refine xiload_n hx hb dX12_read_153 hl rfl ?_
                  refine xaload_n hx hb dX12_read_154 hl rfl ?_
                  refine xgetM hx hb hts hiX12 hown hG hw (by repeat first | assumption | exact wu_eq _ _ _ | refine wu_ne (by omega) ?_) 14 (by decide) hlnk2 (by repeat first | assumption | exact vu_eq _ _ _ | refine vu_ne (by decide) ?_) dX12_read_155 ?_
                  first | refine xcmp_eq (tgt := 180) hx hb dX12_read_158 (by decide) (by omega) (by omega) (fun c158 => ?_) (fun c158 => ?_) | refine lv_icmp_eq (tgt := 180) hx hb dX12_read_158 (by decide) (fun c158 => ?_) (fun c158 => ?_)
                  · skip
                    refine xiload_n hx hb dX12_read_180 hl rfl ?_
                    have hrd := rd_e4 hok2 (by omega)
                    exact xiret hx hb hr hlk hw hS dX12_read_181 ⟨congrArg nI hrd.1, _, hV2, by rw [hrd.2]; exact vu_ne (by decide) h16, fun z => absurd (hrd.2.symm.trans z) (by decide), hM2, hO2⟩
                  · skip
                    refine xaload_n hx hb dX12_read_161 hl rfl ?_
                    refine xgetM hx hb hts hiX12 hown hG hw (by repeat first | assumption | exact wu_eq _ _ _ | refine wu_ne (by omega) ?_) 17 (by decide) hlnk1 (by repeat first | assumption | exact vu_eq _ _ _ | refine vu_ne (by decide) ?_) dX12_read_162 ?_
                    refine lv_iconst (v := nI 5) hx hb dX12_read_165 (by decide) ?_
                    first | refine xcmp_eq (tgt := 180) hx hb dX12_read_166 (by decide) (by omega) (by omega) (fun c166 => ?_) (fun c166 => ?_) | refine lv_icmp_eq (tgt := 180) hx hb dX12_read_166 (by decide) (fun c166 => ?_) (fun c166 => ?_)
                    · skip
                      refine xiload_n hx hb dX12_read_180 hl rfl ?_
                      have hrd := rd_e4 hok2 (by omega)
                      exact xiret hx hb hr hlk hw hS dX12_read_181 ⟨congrArg nI hrd.1, _, hV2, by rw [hrd.2]; exact vu_ne (by decide) h16, fun z => absurd (hrd.2.symm.trans z) (by decide), hM2, hO2⟩
                    · skip
                      have hgk2 := hgr (3 * m1 + 2) (by omega)
                      refine xaload_n hx hb dX12_read_169 hl rfl ?_
                      refine xgetM hx hb hts hiX12 hown hG hw (by repeat first | assumption | exact wu_eq _ _ _ | refine wu_ne (by omega) ?_) 15 (by decide) hlnk3 (by repeat first | assumption | exact vu_eq _ _ _ | refine vu_ne (by decide) ?_) dX12_read_170 ?_
                      refine xiload_n hx hb dX12_read_173 hl rfl ?_
                      refine xbald hx hb hG hw (by repeat first | assumption | exact wu_eq _ _ _ | refine wu_ne (by omega) ?_) (by omega) (by omega) dX12_read_174 ?_
                      refine xtop (hpg (3 * m1 + 2) (by omega)) ?_
                      refine lv_bipush (v := nI 44) hx hb dX12_read_175 (by decide) ?_
                      first | refine xcmp_eq (tgt := 182) hx hb dX12_read_177 (by decide) (by omega) (by omega) (fun c177 => ?_) (fun c177 => ?_) | refine lv_icmp_eq (tgt := 182) hx hb dX12_read_177 (by decide) (fun c177 => ?_) (fun c177 => ?_)
                      · skip
                        first | refine xiincN hx hb 1 dX12_read_182 hl rfl (by decide) (by decide) rfl (fun ls hl => ?_) | refine xiinc hx hb dX12_read_182 hl rfl rfl (by decide) rfl (fun ls hl => ?_)
                        refine lv_goto (tgt := 12) hx hb dX12_read_185 (by decide) ?_
                        exact ih12 (m1 + 1) _ _ _ _ _ (by omega) (by omega) (by rw [show 3 * (m1 + 1) = 3 * m1 + 2 + 1 by omega]; exact okB_s hok2 (by omega) (by rw [fitP2]; exact decide_eq_true (Or.inl ⟨c177, by omega⟩)) (by omega)) hV1.s17 (vu_ne (by decide) h16) (vu_eq _ _ _) hM2 hO2 hw hS hl
                      · skip
                        refine xiload_n hx hb dX12_read_180 hl rfl ?_
                        have hrd := rd_e4 hok2 (by omega)
                        exact xiret hx hb hr hlk hw hS dX12_read_181 ⟨congrArg nI hrd.1, _, hV2, by rw [hrd.2]; exact vu_ne (by decide) h16, fun z => absurd (hrd.2.symm.trans z) (by decide), hM2, hO2⟩
                · skip
                  refine xaload_n hx hb dX12_read_92 hl rfl ?_
                  refine xgetM hx hb hts hiX12 hown hG hw (by repeat first | assumption | exact wu_eq _ _ _ | refine wu_ne (by omega) ?_) 17 (by decide) hlnk1 (by repeat first | assumption | exact vu_eq _ _ _ | refine vu_ne (by decide) ?_) dX12_read_93 ?_
                  refine lv_iconst (v := nI 1) hx hb dX12_read_96 (by decide) ?_
                  first | refine xcmp_le (tgt := 153) hx hb dX12_read_97 (by decide) (by omega) (by omega) (fun c97 => ?_) (fun c97 => ?_) | refine lv_icmp_le (tgt := 153) hx hb dX12_read_97 (by decide) (fun c97 => ?_) (fun c97 => ?_)
                  · skip
                    refine xiload_n hx hb dX12_read_153 hl rfl ?_
                    refine xaload_n hx hb dX12_read_154 hl rfl ?_
                    refine xgetM hx hb hts hiX12 hown hG hw (by repeat first | assumption | exact wu_eq _ _ _ | refine wu_ne (by omega) ?_) 14 (by decide) hlnk2 (by repeat first | assumption | exact vu_eq _ _ _ | refine vu_ne (by decide) ?_) dX12_read_155 ?_
                    first | refine xcmp_eq (tgt := 180) hx hb dX12_read_158 (by decide) (by omega) (by omega) (fun c158 => ?_) (fun c158 => ?_) | refine lv_icmp_eq (tgt := 180) hx hb dX12_read_158 (by decide) (fun c158 => ?_) (fun c158 => ?_)
                    · skip
                      refine xiload_n hx hb dX12_read_180 hl rfl ?_
                      have hrd := rd_e4 hok2 (by omega)
                      exact xiret hx hb hr hlk hw hS dX12_read_181 ⟨congrArg nI hrd.1, _, hV2, by rw [hrd.2]; exact vu_ne (by decide) h16, fun z => absurd (hrd.2.symm.trans z) (by decide), hM2, hO2⟩
                    · skip
                      refine xaload_n hx hb dX12_read_161 hl rfl ?_
                      refine xgetM hx hb hts hiX12 hown hG hw (by repeat first | assumption | exact wu_eq _ _ _ | refine wu_ne (by omega) ?_) 17 (by decide) hlnk1 (by repeat first | assumption | exact vu_eq _ _ _ | refine vu_ne (by decide) ?_) dX12_read_162 ?_
                      refine lv_iconst (v := nI 5) hx hb dX12_read_165 (by decide) ?_
                      first | refine xcmp_eq (tgt := 180) hx hb dX12_read_166 (by decide) (by omega) (by omega) (fun c166 => ?_) (fun c166 => ?_) | refine lv_icmp_eq (tgt := 180) hx hb dX12_read_166 (by decide) (fun c166 => ?_) (fun c166 => ?_)
                      · skip
                        refine xiload_n hx hb dX12_read_180 hl rfl ?_
                        have hrd := rd_e4 hok2 (by omega)
                        exact xiret hx hb hr hlk hw hS dX12_read_181 ⟨congrArg nI hrd.1, _, hV2, by rw [hrd.2]; exact vu_ne (by decide) h16, fun z => absurd (hrd.2.symm.trans z) (by decide), hM2, hO2⟩
                      · skip
                        have hgk2 := hgr (3 * m1 + 2) (by omega)
                        refine xaload_n hx hb dX12_read_169 hl rfl ?_
                        refine xgetM hx hb hts hiX12 hown hG hw (by repeat first | assumption | exact wu_eq _ _ _ | refine wu_ne (by omega) ?_) 15 (by decide) hlnk3 (by repeat first | assumption | exact vu_eq _ _ _ | refine vu_ne (by decide) ?_) dX12_read_170 ?_
                        refine xiload_n hx hb dX12_read_173 hl rfl ?_
                        refine xbald hx hb hG hw (by repeat first | assumption | exact wu_eq _ _ _ | refine wu_ne (by omega) ?_) (by omega) (by omega) dX12_read_174 ?_
                        refine xtop (hpg (3 * m1 + 2) (by omega)) ?_
                        refine lv_bipush (v := nI 44) hx hb dX12_read_175 (by decide) ?_
                        first | refine xcmp_eq (tgt := 182) hx hb dX12_read_177 (by decide) (by omega) (by omega) (fun c177 => ?_) (fun c177 => ?_) | refine lv_icmp_eq (tgt := 182) hx hb dX12_read_177 (by decide) (fun c177 => ?_) (fun c177 => ?_)
                        · skip
                          first | refine xiincN hx hb 1 dX12_read_182 hl rfl (by decide) (by decide) rfl (fun ls hl => ?_) | refine xiinc hx hb dX12_read_182 hl rfl rfl (by decide) rfl (fun ls hl => ?_)
                          refine lv_goto (tgt := 12) hx hb dX12_read_185 (by decide) ?_
                          exact ih12 (m1 + 1) _ _ _ _ _ (by omega) (by omega) (by rw [show 3 * (m1 + 1) = 3 * m1 + 2 + 1 by omega]; exact okB_s hok2 (by omega) (by rw [fitP2]; exact decide_eq_true (Or.inl ⟨c177, by omega⟩)) (by omega)) hV1.s17 (vu_ne (by decide) h16) (vu_eq _ _ _) hM2 hO2 hw hS hl
                        · skip
                          refine xiload_n hx hb dX12_read_180 hl rfl ?_
                          have hrd := rd_e4 hok2 (by omega)
                          exact xiret hx hb hr hlk hw hS dX12_read_181 ⟨congrArg nI hrd.1, _, hV2, by rw [hrd.2]; exact vu_ne (by decide) h16, fun z => absurd (hrd.2.symm.trans z) (by decide), hM2, hO2⟩
                  · skip
                    refine xaload_n hx hb dX12_read_100 hl rfl ?_
                    refine xaload_n hx hb dX12_read_101 hl rfl ?_
                    refine xiload_n hx hb dX12_read_102 hl rfl ?_
                    refine lv_iconst (v := nI 1) hx hb dX12_read_103 (by decide) ?_
                    first | refine xadd hx hb dX12_read_104 ?_ | refine lv_iadd hx hb dX12_read_104 ?_
                    refine lv_iconst (v := nI 1) hx hb dX12_read_105 (by decide) ?_
                    refine lv_iconst (v := nI 5) hx hb dX12_read_106 (by decide) ?_
                    refine xVi ⟨hx, hb, hml, hown, hts⟩ (kX12_isFigure l N0 G _ _ _ A hM2 S hR2 hL (3 * m1 + 2 + 1) 1 5 (by omega) ⟨by omega, by omega⟩) (cwV 3 hts gX12_read_X12_isFigure rfl rfl rfl (by decide +kernel) ⟨Nat.le_of_ble_eq_true rfl, Nat.le_of_ble_eq_true rfl⟩) hG hN hw hS (ci := 12) (by repeat first | assumption | exact wu_eq _ _ _ | refine wu_ne (by omega) ?_) rfl rfl hl.1 rfl (Nat.le_of_ble_eq_true rfl) dX12_read_107 ⟨Nat.le_of_ble_eq_true rfl, Nat.le_of_ble_eq_true rfl⟩ (fun r107 w107 H locs hp107 hw hS => ?_)
                    obtain ⟨rfl, rfl⟩ := hp107
                    first | refine xifb_eq (tgt := 127) hx hb dX12_read_110 (by decide) (fun c110 => ?_) (fun c110 => ?_) | refine xif_eq (tgt := 127) hx hb dX12_read_110 (by decide) (by omega) (fun c110 => ?_) (fun c110 => ?_) | refine lv_if_eq (tgt := 127) hx hb dX12_read_110 (by decide) (fun c110 => ?_) (fun c110 => ?_)
                    · skip
                      refine lv_iconst (v := nI 0) hx hb dX12_read_127 (by decide) ?_
                      have hrd : (fig (sg S) (3 * m1 + 2 + 1) 1 5 = true ∧ ff (sg S) (sg S).length 0 = 3 * m1 + 2 + 2 ∧ isT (sg S) = decide (3 * m1 + 2 + 2 = (sg S).length)) ∨ (fig (sg S) (3 * m1 + 2 + 1) 1 5 = false ∧ ff (sg S) (sg S).length 0 = 3 * m1 + 2 + 1 ∧ isT (sg S) = false) := by
                        first
                          | exact Or.inl ⟨c110, rd_e3y hok2 c78 c89 (by omega) c110⟩
                          | exact Or.inr ⟨c110, rd_e3n hok2 c78 c89 (by omega) c110⟩
                      refine xtop (y := bI (isT (sg S))) (by first | (rw [(hrd.resolve_right (fun z => absurd (z.1.symm.trans c110) (by decide))).2.2, decide_eq_true c120]; rfl) | (rw [(hrd.resolve_right (fun z => absurd (z.1.symm.trans c110) (by decide))).2.2, decide_eq_false c120]; rfl) | (rw [(hrd.resolve_left (fun z => absurd (z.1.symm.trans c110) (by decide))).2.2]; rfl)) ?_
                      refine xputM (ty := .boolean) hx hb hts hiX12 hown hG hw hS (by repeat first | assumption | exact wu_eq _ _ _ | refine wu_ne (by omega) ?_) 16 (by decide) hlnk0 rfl (by decide +kernel) (nar_b _) (fit_b _) dX12_read_128 (fun H locs hzz hw hS => ?_)
                      have hM3 := hM2.put (k := 16) (.int (bI (isT (sg S)))) (by decide)
                      have hV3 : Vr V (vu (vu V1 17 (.int (nI (m1 + 1)))) 16 (.int (bI (isT (sg S))))) := hV2.s16
                      have hR3 := rm_vr hR hV3
                      have hO3 := hO2.wu (e := eO 12 (mfl (vu (vu V1 17 (.int (nI (m1 + 1)))) 16 (.int (bI (isT (sg S))))))) (show M0 ≤ M0 by omega) (show M0 < M0 + 20 by omega)
                      refine xaload_n hx hb dX12_read_131 hl rfl ?_
                      refine xiload_n hx hb dX12_read_132 hl rfl ?_
                      refine lv_iconst (v := nI 1) hx hb dX12_read_133 (by decide) ?_
                      first | refine xadd hx hb dX12_read_134 ?_ | refine lv_iadd hx hb dX12_read_134 ?_
                      refine lv_iconst (v := nI 1) hx hb dX12_read_135 (by decide) ?_
                      refine lv_iconst (v := nI 5) hx hb dX12_read_136 (by decide) ?_
                      refine xVi ⟨hx, hb, hml, hown, hts⟩ (kX12_isFigure l N0 G _ _ _ A hM3 S hR3 hL (3 * m1 + 2 + 1) 1 5 (by omega) ⟨by omega, by omega⟩) (cwV 3 hts gX12_read_X12_isFigure rfl rfl rfl (by decide +kernel) ⟨Nat.le_of_ble_eq_true rfl, Nat.le_of_ble_eq_true rfl⟩) hG hN hw hS (ci := 12) (by repeat first | assumption | exact wu_eq _ _ _ | refine wu_ne (by omega) ?_) rfl rfl hl.1 rfl (Nat.le_of_ble_eq_true rfl) dX12_read_137 ⟨Nat.le_of_ble_eq_true rfl, Nat.le_of_ble_eq_true rfl⟩ (fun r137 w137 H locs hp137 hw hS => ?_)
                      obtain ⟨rfl, rfl⟩ := hp137
                      first | refine xifb_eq (tgt := 149) hx hb dX12_read_140 (by decide) (fun c140 => ?_) (fun c140 => ?_) | refine xif_eq (tgt := 149) hx hb dX12_read_140 (by decide) (by omega) (fun c140 => ?_) (fun c140 => ?_) | refine lv_if_eq (tgt := 149) hx hb dX12_read_140 (by decide) (fun c140 => ?_) (fun c140 => ?_)
                      · skip
                        refine xiload_n hx hb dX12_read_149 hl rfl ?_
                        refine lv_iconst (v := nI 1) hx hb dX12_read_150 (by decide) ?_
                        first | refine xadd hx hb dX12_read_151 ?_ | refine lv_iadd hx hb dX12_read_151 ?_
                        exact xiret hx hb hr hlk hw hS dX12_read_152 ⟨congrArg nI (by first | exact (hrd.resolve_right (fun z => absurd (z.1.symm.trans c140) (by decide))).2.1 | exact (hrd.resolve_left (fun z => absurd (z.1.symm.trans c140) (by decide))).2.1), _, hV3, vu_eq _ _ _, fun z => vu_ne (by decide) ((vu_eq _ _ _).trans (congrArg (fun q => Value.int (nI q)) (rd_17 hrd z))), hM3, hO3⟩
                      · skip
                        refine xiload_n hx hb dX12_read_143 hl rfl ?_
                        refine lv_iconst (v := nI 2) hx hb dX12_read_144 (by decide) ?_
                        first | refine xadd hx hb dX12_read_145 ?_ | refine lv_iadd hx hb dX12_read_145 ?_
                        refine lv_goto (tgt := 152) hx hb dX12_read_146 (by decide) ?_
                        exact xiret hx hb hr hlk hw hS dX12_read_152 ⟨congrArg nI (by first | exact (hrd.resolve_right (fun z => absurd (z.1.symm.trans c140) (by decide))).2.1 | exact (hrd.resolve_left (fun z => absurd (z.1.symm.trans c140) (by decide))).2.1), _, hV3, vu_eq _ _ _, fun z => vu_ne (by decide) ((vu_eq _ _ _).trans (congrArg (fun q => Value.int (nI q)) (rd_17 hrd z))), hM3, hO3⟩
                    · skip
                      refine xiload_n hx hb dX12_read_113 hl rfl ?_
                      refine lv_iconst (v := nI 2) hx hb dX12_read_114 (by decide) ?_
                      first | refine xadd hx hb dX12_read_115 ?_ | refine lv_iadd hx hb dX12_read_115 ?_
                      refine xaload_n hx hb dX12_read_116 hl rfl ?_
                      refine xgetM hx hb hts hiX12 hown hG hw (by repeat first | assumption | exact wu_eq _ _ _ | refine wu_ne (by omega) ?_) 14 (by decide) hlnk2 (by repeat first | assumption | exact vu_eq _ _ _ | refine vu_ne (by decide) ?_) dX12_read_117 ?_
                      first | refine xcmp_ne (tgt := 127) hx hb dX12_read_120 (by decide) (by omega) (by omega) (fun c120 => ?_) (fun c120 => ?_) | refine lv_icmp_ne (tgt := 127) hx hb dX12_read_120 (by decide) (fun c120 => ?_) (fun c120 => ?_)
                      · skip
                        refine lv_iconst (v := nI 0) hx hb dX12_read_127 (by decide) ?_
                        have hrd : (fig (sg S) (3 * m1 + 2 + 1) 1 5 = true ∧ ff (sg S) (sg S).length 0 = 3 * m1 + 2 + 2 ∧ isT (sg S) = decide (3 * m1 + 2 + 2 = (sg S).length)) ∨ (fig (sg S) (3 * m1 + 2 + 1) 1 5 = false ∧ ff (sg S) (sg S).length 0 = 3 * m1 + 2 + 1 ∧ isT (sg S) = false) := by
                          first
                            | exact Or.inl ⟨c110, rd_e3y hok2 c78 c89 (by omega) c110⟩
                            | exact Or.inr ⟨c110, rd_e3n hok2 c78 c89 (by omega) c110⟩
                        refine xtop (y := bI (isT (sg S))) (by first | (rw [(hrd.resolve_right (fun z => absurd (z.1.symm.trans c110) (by decide))).2.2, decide_eq_true c120]; rfl) | (rw [(hrd.resolve_right (fun z => absurd (z.1.symm.trans c110) (by decide))).2.2, decide_eq_false c120]; rfl) | (rw [(hrd.resolve_left (fun z => absurd (z.1.symm.trans c110) (by decide))).2.2]; rfl)) ?_
                        refine xputM (ty := .boolean) hx hb hts hiX12 hown hG hw hS (by repeat first | assumption | exact wu_eq _ _ _ | refine wu_ne (by omega) ?_) 16 (by decide) hlnk0 rfl (by decide +kernel) (nar_b _) (fit_b _) dX12_read_128 (fun H locs hzz hw hS => ?_)
                        have hM3 := hM2.put (k := 16) (.int (bI (isT (sg S)))) (by decide)
                        have hV3 : Vr V (vu (vu V1 17 (.int (nI (m1 + 1)))) 16 (.int (bI (isT (sg S))))) := hV2.s16
                        have hR3 := rm_vr hR hV3
                        have hO3 := hO2.wu (e := eO 12 (mfl (vu (vu V1 17 (.int (nI (m1 + 1)))) 16 (.int (bI (isT (sg S))))))) (show M0 ≤ M0 by omega) (show M0 < M0 + 20 by omega)
                        refine xaload_n hx hb dX12_read_131 hl rfl ?_
                        refine xiload_n hx hb dX12_read_132 hl rfl ?_
                        refine lv_iconst (v := nI 1) hx hb dX12_read_133 (by decide) ?_
                        first | refine xadd hx hb dX12_read_134 ?_ | refine lv_iadd hx hb dX12_read_134 ?_
                        refine lv_iconst (v := nI 1) hx hb dX12_read_135 (by decide) ?_
                        refine lv_iconst (v := nI 5) hx hb dX12_read_136 (by decide) ?_
                        refine xVi ⟨hx, hb, hml, hown, hts⟩ (kX12_isFigure l N0 G _ _ _ A hM3 S hR3 hL (3 * m1 + 2 + 1) 1 5 (by omega) ⟨by omega, by omega⟩) (cwV 3 hts gX12_read_X12_isFigure rfl rfl rfl (by decide +kernel) ⟨Nat.le_of_ble_eq_true rfl, Nat.le_of_ble_eq_true rfl⟩) hG hN hw hS (ci := 12) (by repeat first | assumption | exact wu_eq _ _ _ | refine wu_ne (by omega) ?_) rfl rfl hl.1 rfl (Nat.le_of_ble_eq_true rfl) dX12_read_137 ⟨Nat.le_of_ble_eq_true rfl, Nat.le_of_ble_eq_true rfl⟩ (fun r137 w137 H locs hp137 hw hS => ?_)
                        obtain ⟨rfl, rfl⟩ := hp137
                        first | refine xifb_eq (tgt := 149) hx hb dX12_read_140 (by decide) (fun c140 => ?_) (fun c140 => ?_) | refine xif_eq (tgt := 149) hx hb dX12_read_140 (by decide) (by omega) (fun c140 => ?_) (fun c140 => ?_) | refine lv_if_eq (tgt := 149) hx hb dX12_read_140 (by decide) (fun c140 => ?_) (fun c140 => ?_)
                        · skip
                          refine xiload_n hx hb dX12_read_149 hl rfl ?_
                          refine lv_iconst (v := nI 1) hx hb dX12_read_150 (by decide) ?_
                          first | refine xadd hx hb dX12_read_151 ?_ | refine lv_iadd hx hb dX12_read_151 ?_
                          exact xiret hx hb hr hlk hw hS dX12_read_152 ⟨congrArg nI (by first | exact (hrd.resolve_right (fun z => absurd (z.1.symm.trans c140) (by decide))).2.1 | exact (hrd.resolve_left (fun z => absurd (z.1.symm.trans c140) (by decide))).2.1), _, hV3, vu_eq _ _ _, fun z => vu_ne (by decide) ((vu_eq _ _ _).trans (congrArg (fun q => Value.int (nI q)) (rd_17 hrd z))), hM3, hO3⟩
                        · skip
                          refine xiload_n hx hb dX12_read_143 hl rfl ?_
                          refine lv_iconst (v := nI 2) hx hb dX12_read_144 (by decide) ?_
                          first | refine xadd hx hb dX12_read_145 ?_ | refine lv_iadd hx hb dX12_read_145 ?_
                          refine lv_goto (tgt := 152) hx hb dX12_read_146 (by decide) ?_
                          exact xiret hx hb hr hlk hw hS dX12_read_152 ⟨congrArg nI (by first | exact (hrd.resolve_right (fun z => absurd (z.1.symm.trans c140) (by decide))).2.1 | exact (hrd.resolve_left (fun z => absurd (z.1.symm.trans c140) (by decide))).2.1), _, hV3, vu_eq _ _ _, fun z => vu_ne (by decide) ((vu_eq _ _ _).trans (congrArg (fun q => Value.int (nI q)) (rd_17 hrd z))), hM3, hO3⟩
                      · skip
                        refine lv_iconst (v := nI 1) hx hb dX12_read_123 (by decide) ?_
                        refine lv_goto (tgt := 128) hx hb dX12_read_124 (by decide) ?_
                        have hrd : (fig (sg S) (3 * m1 + 2 + 1) 1 5 = true ∧ ff (sg S) (sg S).length 0 = 3 * m1 + 2 + 2 ∧ isT (sg S) = decide (3 * m1 + 2 + 2 = (sg S).length)) ∨ (fig (sg S) (3 * m1 + 2 + 1) 1 5 = false ∧ ff (sg S) (sg S).length 0 = 3 * m1 + 2 + 1 ∧ isT (sg S) = false) := by
                          first
                            | exact Or.inl ⟨c110, rd_e3y hok2 c78 c89 (by omega) c110⟩
                            | exact Or.inr ⟨c110, rd_e3n hok2 c78 c89 (by omega) c110⟩
                        refine xtop (y := bI (isT (sg S))) (by first | (rw [(hrd.resolve_right (fun z => absurd (z.1.symm.trans c110) (by decide))).2.2, decide_eq_true c120]; rfl) | (rw [(hrd.resolve_right (fun z => absurd (z.1.symm.trans c110) (by decide))).2.2, decide_eq_false c120]; rfl) | (rw [(hrd.resolve_left (fun z => absurd (z.1.symm.trans c110) (by decide))).2.2]; rfl)) ?_
                        refine xputM (ty := .boolean) hx hb hts hiX12 hown hG hw hS (by repeat first | assumption | exact wu_eq _ _ _ | refine wu_ne (by omega) ?_) 16 (by decide) hlnk0 rfl (by decide +kernel) (nar_b _) (fit_b _) dX12_read_128 (fun H locs hzz hw hS => ?_)
                        have hM3 := hM2.put (k := 16) (.int (bI (isT (sg S)))) (by decide)
                        have hV3 : Vr V (vu (vu V1 17 (.int (nI (m1 + 1)))) 16 (.int (bI (isT (sg S))))) := hV2.s16
                        have hR3 := rm_vr hR hV3
                        have hO3 := hO2.wu (e := eO 12 (mfl (vu (vu V1 17 (.int (nI (m1 + 1)))) 16 (.int (bI (isT (sg S))))))) (show M0 ≤ M0 by omega) (show M0 < M0 + 20 by omega)
                        refine xaload_n hx hb dX12_read_131 hl rfl ?_
                        refine xiload_n hx hb dX12_read_132 hl rfl ?_
                        refine lv_iconst (v := nI 1) hx hb dX12_read_133 (by decide) ?_
                        first | refine xadd hx hb dX12_read_134 ?_ | refine lv_iadd hx hb dX12_read_134 ?_
                        refine lv_iconst (v := nI 1) hx hb dX12_read_135 (by decide) ?_
                        refine lv_iconst (v := nI 5) hx hb dX12_read_136 (by decide) ?_
                        refine xVi ⟨hx, hb, hml, hown, hts⟩ (kX12_isFigure l N0 G _ _ _ A hM3 S hR3 hL (3 * m1 + 2 + 1) 1 5 (by omega) ⟨by omega, by omega⟩) (cwV 3 hts gX12_read_X12_isFigure rfl rfl rfl (by decide +kernel) ⟨Nat.le_of_ble_eq_true rfl, Nat.le_of_ble_eq_true rfl⟩) hG hN hw hS (ci := 12) (by repeat first | assumption | exact wu_eq _ _ _ | refine wu_ne (by omega) ?_) rfl rfl hl.1 rfl (Nat.le_of_ble_eq_true rfl) dX12_read_137 ⟨Nat.le_of_ble_eq_true rfl, Nat.le_of_ble_eq_true rfl⟩ (fun r137 w137 H locs hp137 hw hS => ?_)
                        obtain ⟨rfl, rfl⟩ := hp137
                        first | refine xifb_eq (tgt := 149) hx hb dX12_read_140 (by decide) (fun c140 => ?_) (fun c140 => ?_) | refine xif_eq (tgt := 149) hx hb dX12_read_140 (by decide) (by omega) (fun c140 => ?_) (fun c140 => ?_) | refine lv_if_eq (tgt := 149) hx hb dX12_read_140 (by decide) (fun c140 => ?_) (fun c140 => ?_)
                        · skip
                          refine xiload_n hx hb dX12_read_149 hl rfl ?_
                          refine lv_iconst (v := nI 1) hx hb dX12_read_150 (by decide) ?_
                          first | refine xadd hx hb dX12_read_151 ?_ | refine lv_iadd hx hb dX12_read_151 ?_
                          exact xiret hx hb hr hlk hw hS dX12_read_152 ⟨congrArg nI (by first | exact (hrd.resolve_right (fun z => absurd (z.1.symm.trans c140) (by decide))).2.1 | exact (hrd.resolve_left (fun z => absurd (z.1.symm.trans c140) (by decide))).2.1), _, hV3, vu_eq _ _ _, fun z => vu_ne (by decide) ((vu_eq _ _ _).trans (congrArg (fun q => Value.int (nI q)) (rd_17 hrd z))), hM3, hO3⟩
                        · skip
                          refine xiload_n hx hb dX12_read_143 hl rfl ?_
                          refine lv_iconst (v := nI 2) hx hb dX12_read_144 (by decide) ?_
                          first | refine xadd hx hb dX12_read_145 ?_ | refine lv_iadd hx hb dX12_read_145 ?_
                          refine lv_goto (tgt := 152) hx hb dX12_read_146 (by decide) ?_
                          exact xiret hx hb hr hlk hw hS dX12_read_152 ⟨congrArg nI (by first | exact (hrd.resolve_right (fun z => absurd (z.1.symm.trans c140) (by decide))).2.1 | exact (hrd.resolve_left (fun z => absurd (z.1.symm.trans c140) (by decide))).2.1), _, hV3, vu_eq _ _ _, fun z => vu_ne (by decide) ((vu_eq _ _ _).trans (congrArg (fun q => Value.int (nI q)) (rd_17 hrd z))), hM3, hO3⟩
            · skip
              refine xiload_n hx hb dX12_read_56 hl rfl ?_
              refine lv_iconst (v := nI 1) hx hb dX12_read_57 (by decide) ?_
              first | refine xadd hx hb dX12_read_58 ?_ | refine lv_iadd hx hb dX12_read_58 ?_
              have hrd := rd_e2 hok1 c53
              exact xiret hx hb hr hlk hw hS dX12_read_59 ⟨congrArg nI hrd.1, _, hV1, by rw [hrd.2]; exact h16, fun z => absurd (hrd.2.symm.trans z) (by decide), hM1, hO1⟩
          · skip
            have hrd : ff (sg S) (sg S).length 0 = 3 * m1 ∧ isT (sg S) = false := by first | exact rd_end hok c25 | exact rd_no hok (by omega) (by rw [fitP0]; exact oI_m1 c38)
            refine xiload_n hx hb dX12_read_41 hl rfl ?_
            exact xiret hx hb hr hlk hw hS dX12_read_42 ⟨congrArg nI hrd.1, _, hV1, by rw [hrd.2]; exact h16, fun z => absurd (hrd.2.symm.trans z) (by decide), hM1, hO1⟩
  exact loop12 6 0 _ _ _ _ _ (by omega) (by omega) ⟨Nat.zero_le _, fun j hj => absurd hj (Nat.not_lt_zero j)⟩ Vr.rf.s16.s17 (vu_ne (by decide) (vu_eq _ _ _)) (vu_eq _ _ _) ((hM.put (k := 16) (.int (nI 0)) (by decide)).put (k := 17) (.int (nI 0)) (by decide)) ((Out.rf.wu (by omega) (by omega)).wu (by omega) (by omega)) hw hS hl
set_option maxHeartbeats 4000000 in
set_option maxRecDepth 100000 in
theorem kX12_fault (l : Launch) (N0 : Nat) (G : XG) (w : Wd) (M0 : Nat) (V : Nat → Value) (A : Nat → Nat → Int32) (hM : MW G w M0 V A) (S : QS) (hR : RM S V A) (hL : WB S) : XM l yX12_fault wsX12_fault (rmD 4) N0 G [.ref M0] w vI (fun r w1 => nI (ff (sg S) (sg S).length 0) = r ∧ (∃ V1 A1, MW G w1 M0 V1 A1 ∧ RM (S) V1 A1) ∧ Out w w1 M0 (M0 + 20)) 0 0 := by
  refine XM.of (cc := cX12_fault) (maxL := 1) (ret := (some .int)) (by decide) rfl (Nat.le_of_ble_eq_true rfl) ?_
  intro p e s m below meth c hx hb hr hlk hin0 hml hown hts hN hw hG hS ls hl
  have hown : s.vm.findClass RX12 = some m.cls := hown
  have hl : lh ls 1 [some (.ref M0)] := hl
  obtain ⟨hm0, ⟨hv3, hv4, hv5, hv6, hv8, hv9, hv11, hv12, hv15, hv18, hv19, hv20, hv24, hv30, hv31, hv32, hv33, hv34, hv35⟩, ha1, ha2, ha3, ha4, ha5, ha6, ha7, ha8, ha9, ha10, ha11, ha12, ha13, ha14, ha15, ha16, ha17, ha18, ha19⟩ := id hM
  obtain ⟨ht, hn, hlm, hdn, hhn, has, hpl, hkw, hRB, hpg, hkp⟩ := id hR
  obtain ⟨hn5, hl5, hkd, hsp, hd6, hdw, hh6, hg18, hgr, hIm⟩ := id hL
  refine xaload_n hx hb dX12_fault_0 hl rfl ?_
  refine xVi ⟨hx, hb, hml, hown, hts⟩ (kX12_read l N0 G _ _ V A hM S hR hL) (cwV 0 hts gX12_fault_X12_read rfl rfl rfl (by decide +kernel) ⟨Nat.le_of_ble_eq_true rfl, Nat.le_of_ble_eq_true rfl⟩) hG hN hw hS (ci := 12) (by repeat first | assumption | exact wu_eq _ _ _ | refine wu_ne (by omega) ?_) rfl rfl hl.1 rfl (Nat.le_of_ble_eq_true rfl) dX12_fault_1 ⟨Nat.le_of_ble_eq_true rfl, Nat.le_of_ble_eq_true rfl⟩ (fun r1 w1 H locs hp1 hw hS => ?_)
  obtain ⟨rfl, V1, hV1, h16, h17, hM1, hO1⟩ := hp1
  exact xiret hx hb hr hlk hw hS dX12_fault_4 ⟨rfl, ⟨V1, A, hM1, rm_vr hR hV1⟩, hO1⟩
set_option maxHeartbeats 4000000 in
set_option maxRecDepth 100000 in
theorem kX12_letter (l : Launch) (N0 : Nat) (G : XG) (w : Wd) (M0 : Nat) (V : Nat → Value) (A : Nat → Nat → Int32) (hM : MW G w M0 V A) (S : QS) (hR : RM S V A) (hL : WB S) (x : Int32) : XM l yX12_letter wsX12_letter (rmD 2) N0 G [.ref M0, .int x] w vI (fun r w1 => (o_letter S x).1 = r ∧ (∃ V1 A1, MW G w1 M0 V1 A1 ∧ RM ((o_letter S x).2) V1 A1) ∧ Out w w1 M0 (M0 + 20)) 0 0 := by
  refine XM.of (cc := cX12_letter) (maxL := 2) (ret := (some .int)) (by decide) rfl (Nat.le_of_ble_eq_true rfl) ?_
  intro p e s m below meth c hx hb hr hlk hin0 hml hown hts hN hw hG hS ls hl
  have hown : s.vm.findClass RX12 = some m.cls := hown
  have hiX12 : ∀ x ∈ u_ws RX12 TX12 37, x ∈ wsX12_letter := by decide +kernel
  have hlnk0 := hts (.fieldLink RX12 72 "LentQuillModel" "pageLength" "I") (by decide +kernel)
  have hlnk1 := hts (.fieldLink RX12 34 "LentQuillModel" "page" "[B") (by decide +kernel)
  have hl : lh ls 2 [some (.ref M0), some (.int x)] := hl
  obtain ⟨hm0, ⟨hv3, hv4, hv5, hv6, hv8, hv9, hv11, hv12, hv15, hv18, hv19, hv20, hv24, hv30, hv31, hv32, hv33, hv34, hv35⟩, ha1, ha2, ha3, ha4, ha5, ha6, ha7, ha8, ha9, ha10, ha11, ha12, ha13, ha14, ha15, ha16, ha17, ha18, ha19⟩ := id hM
  obtain ⟨ht, hn, hlm, hdn, hhn, has, hpl, hkw, hRB, hpg, hkp⟩ := id hR
  obtain ⟨hn5, hl5, hkd, hsp, hd6, hdw, hh6, hg18, hgr, hIm⟩ := id hL
  rcases letter_cases S x with ⟨i, hi, h32, hlt, rfl⟩ | ⟨i, hi, h32, hlt, rfl⟩ | hx1
  · skip
    refine xiload_n hx hb dX12_letter_0 hl rfl ?_
    refine lv_bipush (v := nI 32) hx hb dX12_letter_1 (by decide) ?_
    refine lv_bipush (v := nI 126) hx hb dX12_letter_3 (by decide) ?_
    refine xSi ⟨hx, hb, hml, hown, hts⟩ (kX12_within l N0 G _ _ _ _) (va_cwS 3 hts gX12_letter_X12_within rfl rfl rfl (by decide +kernel) ⟨Nat.le_of_ble_eq_true rfl, Nat.le_of_ble_eq_true rfl⟩) hG hN hw hS rfl hl.1 rfl (Nat.le_of_ble_eq_true rfl) dX12_letter_5 ⟨Nat.le_of_ble_eq_true rfl, Nat.le_of_ble_eq_true rfl⟩ (fun r5 w5 H locs hp5 hw hS => ?_)
    obtain ⟨rfl, rfl⟩ := hp5
    refine xtop (y := bI true) (congrArg bI (wiB_y (by omega) (by omega) (by omega))) ?_
    first | refine xifb_ne (tgt := 14) hx hb dX12_letter_8 (by decide) (fun c8 => ?_) (fun c8 => ?_) | refine xif_ne (tgt := 14) hx hb dX12_letter_8 (by decide) (by omega) (fun c8 => ?_) (fun c8 => ?_) | refine lv_if_ne (tgt := 14) hx hb dX12_letter_8 (by decide) (fun c8 => ?_) (fun c8 => ?_)
    · skip
      refine xaload_n hx hb dX12_letter_14 hl rfl ?_
      refine xgetM hx hb hts hiX12 hown hG hw (by repeat first | assumption | exact wu_eq _ _ _ | refine wu_ne (by omega) ?_) 14 (by decide) hlnk0 (by repeat first | assumption | exact vu_eq _ _ _ | refine vu_ne (by decide) ?_) dX12_letter_15 ?_
      refine lv_bipush (v := nI 18) hx hb dX12_letter_18 (by decide) ?_
      first | refine xcmp_ne (tgt := 26) hx hb dX12_letter_20 (by decide) (by omega) (by omega) (fun c20 => ?_) (fun c20 => ?_) | refine lv_icmp_ne (tgt := 26) hx hb dX12_letter_20 (by decide) (fun c20 => ?_) (fun c20 => ?_)
      · skip
        refine xaload_n hx hb dX12_letter_26 hl rfl ?_
        refine xgetM hx hb hts hiX12 hown hG hw (by repeat first | assumption | exact wu_eq _ _ _ | refine wu_ne (by omega) ?_) 15 (by decide) hlnk1 (by repeat first | assumption | exact vu_eq _ _ _ | refine vu_ne (by decide) ?_) dX12_letter_27 ?_
        refine xaload_n hx hb dX12_letter_30 hl rfl ?_
        refine xgetM hx hb hts hiX12 hown hG hw (by repeat first | assumption | exact wu_eq _ _ _ | refine wu_ne (by omega) ?_) 14 (by decide) hlnk0 (by repeat first | assumption | exact vu_eq _ _ _ | refine vu_ne (by decide) ?_) dX12_letter_31 ?_
        refine xiload_n hx hb dX12_letter_34 hl rfl ?_
        refine lv_i2b (v := nI i) hx hb dX12_letter_35 (nI_i2b (by omega)) ?_
        refine xbast hx hb hG hw hS (by repeat first | assumption | exact wu_eq _ _ _ | refine wu_ne (by omega) ?_) (by omega) (by omega) dX12_letter_36 (fun H locs hzz hw hS => ?_)
        refine xaload_n hx hb dX12_letter_37 hl rfl ?_
        refine lv_dup hx hb dX12_letter_38 rfl ?_
        refine xgetM hx hb hts hiX12 hown hG hw (by repeat first | assumption | exact wu_eq _ _ _ | refine wu_ne (by omega) ?_) 14 (by decide) hlnk0 (by repeat first | assumption | exact vu_eq _ _ _ | refine vu_ne (by decide) ?_) dX12_letter_39 ?_
        refine lv_iconst (v := nI 1) hx hb dX12_letter_42 (by decide) ?_
        first | refine xadd hx hb dX12_letter_43 ?_ | refine lv_iadd hx hb dX12_letter_43 ?_
        refine xputM (ty := .int) hx hb hts hiX12 hown hG hw hS (by repeat first | assumption | exact wu_eq _ _ _ | refine wu_ne (by omega) ?_) 14 (by decide) hlnk0 rfl (by decide +kernel) rfl rfl dX12_letter_44 (fun H locs hzz hw hS => ?_)
        refine xaload_n hx hb dX12_letter_47 hl rfl ?_
        refine xgetM hx hb hts hiX12 hown hG hw (by repeat first | assumption | exact wu_eq _ _ _ | refine wu_ne (by omega) ?_) 14 (by decide) hlnk0 (by repeat first | assumption | exact vu_eq _ _ _ | refine vu_ne (by decide) ?_) dX12_letter_48 ?_
        exact xiret hx hb hr hlk hw hS dX12_letter_51 ⟨by rw [letter_in hi h32 hlt], ⟨_, _, (hM.a9 _).put (k := 14) (.int (nI ((sg S).length + 1))) (by decide), by rw [letter_in hi h32 hlt]; exact rm_letter hR (by omega)⟩, (Out.rf.wu (by omega) (by omega)).wu (by omega) (by omega)⟩
      · skip
        exfalso
        omega
    · skip
      exfalso
      cases c8
  · skip
    refine xiload_n hx hb dX12_letter_0 hl rfl ?_
    refine lv_bipush (v := nI 32) hx hb dX12_letter_1 (by decide) ?_
    refine lv_bipush (v := nI 126) hx hb dX12_letter_3 (by decide) ?_
    refine xSi ⟨hx, hb, hml, hown, hts⟩ (kX12_within l N0 G _ _ _ _) (va_cwS 3 hts gX12_letter_X12_within rfl rfl rfl (by decide +kernel) ⟨Nat.le_of_ble_eq_true rfl, Nat.le_of_ble_eq_true rfl⟩) hG hN hw hS rfl hl.1 rfl (Nat.le_of_ble_eq_true rfl) dX12_letter_5 ⟨Nat.le_of_ble_eq_true rfl, Nat.le_of_ble_eq_true rfl⟩ (fun r5 w5 H locs hp5 hw hS => ?_)
    obtain ⟨rfl, rfl⟩ := hp5
    refine xtop (y := bI true) (congrArg bI (wiB_y (by omega) (by omega) (by omega))) ?_
    first | refine xifb_ne (tgt := 14) hx hb dX12_letter_8 (by decide) (fun c8 => ?_) (fun c8 => ?_) | refine xif_ne (tgt := 14) hx hb dX12_letter_8 (by decide) (by omega) (fun c8 => ?_) (fun c8 => ?_) | refine lv_if_ne (tgt := 14) hx hb dX12_letter_8 (by decide) (fun c8 => ?_) (fun c8 => ?_)
    · skip
      refine xaload_n hx hb dX12_letter_14 hl rfl ?_
      refine xgetM hx hb hts hiX12 hown hG hw (by repeat first | assumption | exact wu_eq _ _ _ | refine wu_ne (by omega) ?_) 14 (by decide) hlnk0 (by repeat first | assumption | exact vu_eq _ _ _ | refine vu_ne (by decide) ?_) dX12_letter_15 ?_
      refine lv_bipush (v := nI 18) hx hb dX12_letter_18 (by decide) ?_
      first | refine xcmp_ne (tgt := 26) hx hb dX12_letter_20 (by decide) (by omega) (by omega) (fun c20 => ?_) (fun c20 => ?_) | refine lv_icmp_ne (tgt := 26) hx hb dX12_letter_20 (by decide) (fun c20 => ?_) (fun c20 => ?_)
      · skip
        exfalso
        omega
      · skip
        refine lv_bipush (v := -104) hx hb dX12_letter_23 (by decide) ?_
        exact xiret hx hb hr hlk hw hS dX12_letter_25 ⟨by rw [letter_full hi h32 hlt], ⟨V, A, hM, by rw [letter_full hi h32 hlt]; exact hR⟩, Out.rf⟩
    · skip
      exfalso
      cases c8
  · skip
    refine xiload_n hx hb dX12_letter_0 hl rfl ?_
    refine lv_bipush (v := nI 32) hx hb dX12_letter_1 (by decide) ?_
    refine lv_bipush (v := nI 126) hx hb dX12_letter_3 (by decide) ?_
    refine xSi ⟨hx, hb, hml, hown, hts⟩ (kX12_within l N0 G _ _ _ _) (va_cwS 3 hts gX12_letter_X12_within rfl rfl rfl (by decide +kernel) ⟨Nat.le_of_ble_eq_true rfl, Nat.le_of_ble_eq_true rfl⟩) hG hN hw hS rfl hl.1 rfl (Nat.le_of_ble_eq_true rfl) dX12_letter_5 ⟨Nat.le_of_ble_eq_true rfl, Nat.le_of_ble_eq_true rfl⟩ (fun r5 w5 H locs hp5 hw hS => ?_)
    obtain ⟨rfl, rfl⟩ := hp5
    refine xtop (y := bI false) (congrArg bI (wiB_no hx1)) ?_
    first | refine xifb_ne (tgt := 14) hx hb dX12_letter_8 (by decide) (fun c8 => ?_) (fun c8 => ?_) | refine xif_ne (tgt := 14) hx hb dX12_letter_8 (by decide) (by omega) (fun c8 => ?_) (fun c8 => ?_) | refine lv_if_ne (tgt := 14) hx hb dX12_letter_8 (by decide) (fun c8 => ?_) (fun c8 => ?_)
    · skip
      exfalso
      cases c8
    · skip
      refine lv_bipush (v := -102) hx hb dX12_letter_11 (by decide) ?_
      exact xiret hx hb hr hlk hw hS dX12_letter_13 ⟨by rw [letter_no hx1], ⟨V, A, hM, by rw [letter_no hx1]; exact hR⟩, Out.rf⟩
