/-! ===== Pen ===== -/
theorem passTo_rep {G : XG} {w : Wd} {p0 : Nat} {h : List Nat} {f : Nat → Int32} {t : Nat} (hp0 : w p0 = some (eO 6 [.ref (p0 + 1), .int (nI (h.length - 1))])) (hp1 : w (p0 + 1) = some (eI G 41 f)) (hlen0 : 0 < h.length) (hl40 : h.length ≤ 40) (hf : ∀ j, j < h.length → f (h.length - 1 - j) = nI (h.getD j 0)) : RPen G (wu (wu w p0 (eO 6 [.ref (p0 + 1), .int (nI (h.length - 1 + 1))])) (p0 + 1) (eI G 41 (upd f (h.length - 1 + 1) (nI t)))) p0 (t :: h) := by
  refine ⟨_, ?_, wu_eq _ _ _, by simp, by simp; omega, ?_⟩
  · rw [wu_nq (by omega), wu_eq]
    have e : h.length - 1 + 1 = (t :: h).length - 1 := by simp; omega
    rw [e]
  · intro j hj
    simp only [List.length_cons] at hj ⊢
    have e : h.length - 1 + 1 = h.length := by omega
    rw [e]
    cases j with
    | zero => simp [upd]
    | succ j =>
      have hne : h.length + 1 - 1 - (j + 1) ≠ h.length := by omega
      rw [pk_un hne]
      have := hf j (by omega)
      rw [show h.length + 1 - 1 - (j + 1) = h.length - 1 - j by omega, this]
      simp
theorem takeBack_rep {G : XG} {w : Wd} {p0 : Nat} {h : List Nat} {f : Nat → Int32} (hp0 : w p0 = some (eO 6 [.ref (p0 + 1), .int (nI (h.length - 1))])) (hp1 : w (p0 + 1) = some (eI G 41 f)) (hl2 : 2 ≤ h.length) (hlen : h.length ≤ 41) (hf : ∀ j, j < h.length → f (h.length - 1 - j) = nI (h.getD j 0)) : RPen G (wu w p0 (eO 6 [.ref (p0 + 1), .int (nI (h.length - 1 - 1))])) p0 h.tail := by
  refine ⟨f, ?_, ?_, by simp; omega, by simp; omega, ?_⟩
  · rw [wu_eq]; simp
  · rw [wu_nq (by omega)]; exact hp1
  · intro j hj
    simp only [List.length_tail] at hj ⊢
    have := hf (j + 1) (by omega)
    rw [show h.length - 1 - 1 - j = h.length - 1 - (j + 1) by omega, this]
    cases h with
    | nil => simp at hl2
    | cons x h => simp
theorem startWith_rep {G : XG} {w : Wd} {p0 t : Nat} {f : Nat → Int32} {x : Value} (hp0 : w p0 = some (eO 6 [.ref (p0 + 1), x])) (hp1 : w (p0 + 1) = some (eI G 41 f)) : RPen G (wu (wu w (p0 + 1) (eI G 41 (upd f 0 (nI t)))) p0 (eO 6 [.ref (p0 + 1), .int (nI 0)])) p0 [t] := by
  refine ⟨upd f 0 (nI t), wu_eq _ _ _, ?_, by simp, by simp, ?_⟩
  · rw [wu_nq (by omega), wu_eq]
  · intro j hj
    simp at hj
    subst hj
    simp [upd]
theorem copyFrom_rep {G : XG} {w : Wd} {p0 : Nat} {g : List Nat} {f f2 : Nat → Int32} {x : Value} (hp0 : w p0 = some (eO 6 [.ref (p0 + 1), x])) (hp1 : w (p0 + 1) = some (eI G 41 f)) (hlen02 : 0 < g.length) (hlen2 : g.length ≤ 41) (hf2 : ∀ j, j < g.length → f2 (g.length - 1 - j) = nI (g.getD j 0)) : RPen G (wu (wu w (p0 + 1) (eI G 41 (va_cpy f2 f 0 0 41))) p0 (eO 6 [.ref (p0 + 1), .int (nI (g.length - 1))])) p0 g := by
  refine ⟨va_cpy f2 f 0 0 41, wu_eq _ _ _, ?_, hlen02, hlen2, ?_⟩
  · rw [wu_nq (by omega), wu_eq]
  · intro j hj
    rw [sb_cpy0 (by omega)]
    exact hf2 j hj
set_option maxHeartbeats 4000000 in
set_option maxRecDepth 100000 in
theorem kX6_timesLent (l : Launch) (N0 : Nat) (G : XG) (w : Wd) (p0 : Nat) (h : List Nat) (hp : RPen G w p0 h) : XM l yX6_timesLent wsX6_timesLent (rmD 1) N0 G [.ref p0] w vI (fun r w1 => nI (h.length - 1) = r ∧ w = w1) 0 0 := by
  refine XM.of (cc := cX6_timesLent) (maxL := 1) (ret := (some .int)) (by decide) rfl (Nat.le_of_ble_eq_true rfl) ?_
  intro p e s m below meth c hx hb hr hlk hin0 hml hown hts hN hw hG hS ls hl
  have hown : s.vm.findClass RX6 = some m.cls := hown
  have hiX6 : ∀ x ∈ u_ws RX6 TX6 2, x ∈ wsX6_timesLent := by decide +kernel
  have hk0 := hts (.fieldLink RX6 15 "LentQuill$Pen" "lent" "I") (by decide +kernel)
  have hl : lh ls 1 [some (.ref p0)] := hl
  obtain ⟨f, hp0, hp1, hlen0, hlen, hf⟩ := hp
  refine xaload_n hx hb dX6_timesLent_0 hl rfl ?_
  refine xget (C := RX6) (T := TX6) (N := 2) hx hb (ci := 6) hts hiX6 hown hG hw (by repeat first | assumption | exact wu_eq _ _ _ | refine wu_ne (by omega) ?_) rfl 1 (by decide) hk0 (fun _ h9 => h9) rfl dX6_timesLent_1 ?_
  exact xiret hx hb hr hlk hw hS dX6_timesLent_4 ⟨rfl, rfl⟩
set_option maxHeartbeats 4000000 in
set_option maxRecDepth 100000 in
theorem kX6_isLentOut (l : Launch) (N0 : Nat) (G : XG) (w : Wd) (p0 : Nat) (h : List Nat) (hp : RPen G w p0 h) : XM l yX6_isLentOut wsX6_isLentOut (rmD 1) N0 G [.ref p0] w vI (fun r w1 => bI (decide (41 ≤ h.length)) = r ∧ w = w1) 0 0 := by
  refine XM.of (cc := cX6_isLentOut) (maxL := 1) (ret := (some .boolean)) (by decide) rfl (Nat.le_of_ble_eq_true rfl) ?_
  intro p e s m below meth c hx hb hr hlk hin0 hml hown hts hN hw hG hS ls hl
  have hown : s.vm.findClass RX6 = some m.cls := hown
  have hiX6 : ∀ x ∈ u_ws RX6 TX6 2, x ∈ wsX6_isLentOut := by decide +kernel
  have hk0 := hts (.fieldLink RX6 15 "LentQuill$Pen" "lent" "I") (by decide +kernel)
  have hl : lh ls 1 [some (.ref p0)] := hl
  obtain ⟨f, hp0, hp1, hlen0, hlen, hf⟩ := hp
  refine xaload_n hx hb dX6_isLentOut_0 hl rfl ?_
  refine xget (C := RX6) (T := TX6) (N := 2) hx hb (ci := 6) hts hiX6 hown hG hw (by repeat first | assumption | exact wu_eq _ _ _ | refine wu_ne (by omega) ?_) rfl 1 (by decide) hk0 (fun _ h9 => h9) rfl dX6_isLentOut_1 ?_
  refine lv_bipush (v := nI 40) hx hb dX6_isLentOut_4 (by decide) ?_
  first | refine xcmp_lt (tgt := 13) hx hb dX6_isLentOut_6 (by decide) (by omega) (by omega) (fun c6 => ?_) (fun c6 => ?_) | refine lv_icmp_lt (tgt := 13) hx hb dX6_isLentOut_6 (by decide) (fun c6 => ?_) (fun c6 => ?_)
  · skip
    refine lv_iconst (v := nI 0) hx hb dX6_isLentOut_13 (by decide) ?_
    first | exact xzret hx hb hr hlk hw hS dX6_isLentOut_14 true rfl ⟨congrArg bI (decide_eq_true (by omega)), rfl⟩ | exact xzret hx hb hr hlk hw hS dX6_isLentOut_14 false rfl ⟨congrArg bI (decide_eq_false (by omega)), rfl⟩
  · skip
    refine lv_iconst (v := nI 1) hx hb dX6_isLentOut_9 (by decide) ?_
    refine lv_goto (tgt := 14) hx hb dX6_isLentOut_10 (by decide) ?_
    first | exact xzret hx hb hr hlk hw hS dX6_isLentOut_14 true rfl ⟨congrArg bI (decide_eq_true (by omega)), rfl⟩ | exact xzret hx hb hr hlk hw hS dX6_isLentOut_14 false rfl ⟨congrArg bI (decide_eq_false (by omega)), rfl⟩
set_option maxHeartbeats 4000000 in
set_option maxRecDepth 100000 in
theorem kX6_holder (l : Launch) (N0 : Nat) (G : XG) (w : Wd) (p0 : Nat) (h : List Nat) (hp : RPen G w p0 h) : XM l yX6_holder wsX6_holder (rmD 1) N0 G [.ref p0] w vI (fun r w1 => nI (h.getD 0 0) = r ∧ w = w1) 0 0 := by
  refine XM.of (cc := cX6_holder) (maxL := 1) (ret := (some .int)) (by decide) rfl (Nat.le_of_ble_eq_true rfl) ?_
  intro p e s m below meth c hx hb hr hlk hin0 hml hown hts hN hw hG hS ls hl
  have hown : s.vm.findClass RX6 = some m.cls := hown
  have hiX6 : ∀ x ∈ u_ws RX6 TX6 2, x ∈ wsX6_holder := by decide +kernel
  have hk0 := hts (.fieldLink RX6 15 "LentQuill$Pen" "lent" "I") (by decide +kernel)
  have hk1 := hts (.fieldLink RX6 9 "LentQuill$Pen" "hands" "[I") (by decide +kernel)
  have hl : lh ls 1 [some (.ref p0)] := hl
  obtain ⟨f, hp0, hp1, hlen0, hlen, hf⟩ := hp
  refine xaload_n hx hb dX6_holder_0 hl rfl ?_
  refine xget (C := RX6) (T := TX6) (N := 2) hx hb (ci := 6) hts hiX6 hown hG hw (by repeat first | assumption | exact wu_eq _ _ _ | refine wu_ne (by omega) ?_) rfl 1 (by decide) hk0 (fun _ h9 => h9) rfl dX6_holder_1 ?_
  refine xif_lt (tgt := 19) hx hb dX6_holder_4 (by decide) (by omega) ?_
  refine xaload_n hx hb dX6_holder_7 hl rfl ?_
  refine xget (C := RX6) (T := TX6) (N := 2) hx hb (ci := 6) hts hiX6 hown hG hw (by repeat first | assumption | exact wu_eq _ _ _ | refine wu_ne (by omega) ?_) rfl 1 (by decide) hk0 (fun _ h9 => h9) rfl dX6_holder_8 ?_
  refine xaload_n hx hb dX6_holder_11 hl rfl ?_
  refine xget (C := RX6) (T := TX6) (N := 2) hx hb (ci := 6) hts hiX6 hown hG hw (by repeat first | assumption | exact wu_eq _ _ _ | refine wu_ne (by omega) ?_) rfl 0 (by decide) hk1 (fun _ h9 => h9) rfl dX6_holder_12 ?_
  first | refine xalenI hx hb hG hw (by repeat first | assumption | exact wu_eq _ _ _ | refine wu_ne (by omega) ?_) dX6_holder_15 ?_ | refine xalenP hx hb hG hw (by repeat first | assumption | exact wu_eq _ _ _ | refine wu_ne (by omega) ?_) dX6_holder_15 ?_ | refine xalenN hx hb hG hw (by repeat first | assumption | exact wu_eq _ _ _ | refine wu_ne (by omega) ?_) dX6_holder_15 ?_
  first | refine xcmp_lt (tgt := 23) hx hb dX6_holder_16 (by decide) (by omega) (by omega) (fun c16 => ?_) (fun c16 => ?_) | refine lv_icmp_lt (tgt := 23) hx hb dX6_holder_16 (by decide) (fun c16 => ?_) (fun c16 => ?_)
  · skip
    refine xaload_n hx hb dX6_holder_23 hl rfl ?_
    refine xget (C := RX6) (T := TX6) (N := 2) hx hb (ci := 6) hts hiX6 hown hG hw (by repeat first | assumption | exact wu_eq _ _ _ | refine wu_ne (by omega) ?_) rfl 0 (by decide) hk1 (fun _ h9 => h9) rfl dX6_holder_24 ?_
    refine xaload_n hx hb dX6_holder_27 hl rfl ?_
    refine xget (C := RX6) (T := TX6) (N := 2) hx hb (ci := 6) hts hiX6 hown hG hw (by repeat first | assumption | exact wu_eq _ _ _ | refine wu_ne (by omega) ?_) rfl 1 (by decide) hk0 (fun _ h9 => h9) rfl dX6_holder_28 ?_
    refine xiald hx hb hG hw (by repeat first | assumption | exact wu_eq _ _ _ | refine wu_ne (by omega) ?_) (by omega) (by omega) dX6_holder_31 ?_
    exact xiret hx hb hr hlk hw hS dX6_holder_32 ⟨(hf 0 hlen0).symm, rfl⟩
  · skip
    exfalso
    omega
set_option maxHeartbeats 4000000 in
set_option maxRecDepth 100000 in
theorem kX6_holderBefore (l : Launch) (N0 : Nat) (G : XG) (w : Wd) (p0 : Nat) (h : List Nat) (hp : RPen G w p0 h) (k : Nat) (hk : k ≤ 40) : XM l yX6_holderBefore wsX6_holderBefore (rmD 1) N0 G [.ref p0, .int (nI k)] w vI (fun r w1 => (if k < h.length then nI (h.getD k 0) else -1) = r ∧ w = w1) 0 0 := by
  refine XM.of (cc := cX6_holderBefore) (maxL := 3) (ret := (some .int)) (by decide) rfl (Nat.le_of_ble_eq_true rfl) ?_
  intro p e s m below meth c hx hb hr hlk hin0 hml hown hts hN hw hG hS ls hl
  have hown : s.vm.findClass RX6 = some m.cls := hown
  have hiX6 : ∀ x ∈ u_ws RX6 TX6 2, x ∈ wsX6_holderBefore := by decide +kernel
  have hk0 := hts (.fieldLink RX6 15 "LentQuill$Pen" "lent" "I") (by decide +kernel)
  have hk1 := hts (.fieldLink RX6 9 "LentQuill$Pen" "hands" "[I") (by decide +kernel)
  have hl : lh ls 3 [some (.ref p0), some (.int (nI k)), none] := hl
  obtain ⟨f, hp0, hp1, hlen0, hlen, hf⟩ := hp
  rcases Nat.lt_or_ge k h.length with hkk | hkk
  · skip
    refine xaload_n hx hb dX6_holderBefore_0 hl rfl ?_
    refine xget (C := RX6) (T := TX6) (N := 2) hx hb (ci := 6) hts hiX6 hown hG hw (by repeat first | assumption | exact wu_eq _ _ _ | refine wu_ne (by omega) ?_) rfl 1 (by decide) hk0 (fun _ h9 => h9) rfl dX6_holderBefore_1 ?_
    refine xiload_n hx hb dX6_holderBefore_4 hl rfl ?_
    first | refine xsub hx hb dX6_holderBefore_5 (by omega) ?_ | refine lv_isub hx hb dX6_holderBefore_5 ?_
    refine xistore_n hx hb dX6_holderBefore_6 hl (by decide) rfl (fun ls hl => ?_)
    refine xiload_n hx hb dX6_holderBefore_7 hl rfl ?_
    refine xif_lt (tgt := 24) hx hb dX6_holderBefore_8 (by decide) (by omega) ?_
    refine xiload_n hx hb dX6_holderBefore_11 hl rfl ?_
    refine xif_lt (tgt := 24) hx hb dX6_holderBefore_12 (by decide) (by omega) ?_
    refine xiload_n hx hb dX6_holderBefore_15 hl rfl ?_
    refine xaload_n hx hb dX6_holderBefore_16 hl rfl ?_
    refine xget (C := RX6) (T := TX6) (N := 2) hx hb (ci := 6) hts hiX6 hown hG hw (by repeat first | assumption | exact wu_eq _ _ _ | refine wu_ne (by omega) ?_) rfl 0 (by decide) hk1 (fun _ h9 => h9) rfl dX6_holderBefore_17 ?_
    first | refine xalenI hx hb hG hw (by repeat first | assumption | exact wu_eq _ _ _ | refine wu_ne (by omega) ?_) dX6_holderBefore_20 ?_ | refine xalenP hx hb hG hw (by repeat first | assumption | exact wu_eq _ _ _ | refine wu_ne (by omega) ?_) dX6_holderBefore_20 ?_ | refine xalenN hx hb hG hw (by repeat first | assumption | exact wu_eq _ _ _ | refine wu_ne (by omega) ?_) dX6_holderBefore_20 ?_
    first | refine xcmp_lt (tgt := 28) hx hb dX6_holderBefore_21 (by decide) (by omega) (by omega) (fun c21 => ?_) (fun c21 => ?_) | refine lv_icmp_lt (tgt := 28) hx hb dX6_holderBefore_21 (by decide) (fun c21 => ?_) (fun c21 => ?_)
    · skip
      refine xaload_n hx hb dX6_holderBefore_28 hl rfl ?_
      refine xget (C := RX6) (T := TX6) (N := 2) hx hb (ci := 6) hts hiX6 hown hG hw (by repeat first | assumption | exact wu_eq _ _ _ | refine wu_ne (by omega) ?_) rfl 0 (by decide) hk1 (fun _ h9 => h9) rfl dX6_holderBefore_29 ?_
      refine xiload_n hx hb dX6_holderBefore_32 hl rfl ?_
      refine xiald hx hb hG hw (by repeat first | assumption | exact wu_eq _ _ _ | refine wu_ne (by omega) ?_) (by omega) (by omega) dX6_holderBefore_33 ?_
      exact xiret hx hb hr hlk hw hS dX6_holderBefore_34 ⟨by rw [if_pos hkk]; exact (hf k hkk).symm, rfl⟩
    · skip
      exfalso
      omega
  · skip
    refine xaload_n hx hb dX6_holderBefore_0 hl rfl ?_
    refine xget (C := RX6) (T := TX6) (N := 2) hx hb (ci := 6) hts hiX6 hown hG hw (by repeat first | assumption | exact wu_eq _ _ _ | refine wu_ne (by omega) ?_) rfl 1 (by decide) hk0 (fun _ h9 => h9) rfl dX6_holderBefore_1 ?_
    refine xiload_n hx hb dX6_holderBefore_4 hl rfl ?_
    first | refine xsub hx hb dX6_holderBefore_5 (by omega) ?_ | refine lv_isub hx hb dX6_holderBefore_5 ?_
    refine xistore_n hx hb dX6_holderBefore_6 hl (by decide) rfl (fun ls hl => ?_)
    refine xiload_n hx hb dX6_holderBefore_7 hl rfl ?_
    refine xif_lt (tgt := 24) hx hb dX6_holderBefore_8 (by decide) (by omega) ?_
    refine xiload_n hx hb dX6_holderBefore_11 hl rfl ?_
    refine lv_if_lt (tgt := 24) hx hb dX6_holderBefore_12 (by decide) (fun c12 => ?_) (fun c12 => ?_)
    · skip
      refine lv_iconst (v := -1) hx hb dX6_holderBefore_24 (by decide) ?_
      refine lv_goto (tgt := 34) hx hb dX6_holderBefore_25 (by decide) ?_
      exact xiret hx hb hr hlk hw hS dX6_holderBefore_34 ⟨by rw [if_neg (by omega)], rfl⟩
    · skip
      exfalso
      exact c12 (pk_sneg (by omega) (by omega))
set_option maxHeartbeats 4000000 in
set_option maxRecDepth 100000 in
theorem kX6_passTo (l : Launch) (N0 : Nat) (G : XG) (w : Wd) (p0 : Nat) (h : List Nat) (hp : RPen G w p0 h) (t : Nat) (hl40 : h.length ≤ 40) : XM l yX6_passTo wsX6_passTo (rmD 1) N0 G [.ref p0, .int (nI t)] w vV (fun _ w1 => RPen G w1 p0 (t :: h) ∧ Out w w1 p0 (p0 + 2)) 0 0 := by
  refine XM.of (cc := cX6_passTo) (maxL := 2) (ret := none) (by decide) rfl (Nat.le_of_ble_eq_true rfl) ?_
  intro p e s m below meth c hx hb hr hlk hin0 hml hown hts hN hw hG hS ls hl
  have hown : s.vm.findClass RX6 = some m.cls := hown
  have hiX6 : ∀ x ∈ u_ws RX6 TX6 2, x ∈ wsX6_passTo := by decide +kernel
  have hk0 := hts (.fieldLink RX6 15 "LentQuill$Pen" "lent" "I") (by decide +kernel)
  have hk1 := hts (.fieldLink RX6 9 "LentQuill$Pen" "hands" "[I") (by decide +kernel)
  have hl : lh ls 2 [some (.ref p0), some (.int (nI t))] := hl
  obtain ⟨f, hp0, hp1, hlen0, hlen, hf⟩ := hp
  refine xaload_n hx hb dX6_passTo_0 hl rfl ?_
  refine xget (C := RX6) (T := TX6) (N := 2) hx hb (ci := 6) hts hiX6 hown hG hw (by repeat first | assumption | exact wu_eq _ _ _ | refine wu_ne (by omega) ?_) rfl 1 (by decide) hk0 (fun _ h9 => h9) rfl dX6_passTo_1 ?_
  refine lv_iconst (v := nI 1) hx hb dX6_passTo_4 (by decide) ?_
  first | refine xadd hx hb dX6_passTo_5 ?_ | refine lv_iadd hx hb dX6_passTo_5 ?_
  refine xaload_n hx hb dX6_passTo_6 hl rfl ?_
  refine xget (C := RX6) (T := TX6) (N := 2) hx hb (ci := 6) hts hiX6 hown hG hw (by repeat first | assumption | exact wu_eq _ _ _ | refine wu_ne (by omega) ?_) rfl 0 (by decide) hk1 (fun _ h9 => h9) rfl dX6_passTo_7 ?_
  first | refine xalenI hx hb hG hw (by repeat first | assumption | exact wu_eq _ _ _ | refine wu_ne (by omega) ?_) dX6_passTo_10 ?_ | refine xalenP hx hb hG hw (by repeat first | assumption | exact wu_eq _ _ _ | refine wu_ne (by omega) ?_) dX6_passTo_10 ?_ | refine xalenN hx hb hG hw (by repeat first | assumption | exact wu_eq _ _ _ | refine wu_ne (by omega) ?_) dX6_passTo_10 ?_
  first | refine xcmp_ge (tgt := 34) hx hb dX6_passTo_11 (by decide) (by omega) (by omega) (fun c11 => ?_) (fun c11 => ?_) | refine lv_icmp_ge (tgt := 34) hx hb dX6_passTo_11 (by decide) (fun c11 => ?_) (fun c11 => ?_)
  · skip
    exfalso
    omega
  · skip
    refine xaload_n hx hb dX6_passTo_14 hl rfl ?_
    refine lv_dup hx hb dX6_passTo_15 rfl ?_
    refine xget (C := RX6) (T := TX6) (N := 2) hx hb (ci := 6) hts hiX6 hown hG hw (by repeat first | assumption | exact wu_eq _ _ _ | refine wu_ne (by omega) ?_) rfl 1 (by decide) hk0 (fun _ h9 => h9) rfl dX6_passTo_16 ?_
    refine lv_iconst (v := nI 1) hx hb dX6_passTo_19 (by decide) ?_
    first | refine xadd hx hb dX6_passTo_20 ?_ | refine lv_iadd hx hb dX6_passTo_20 ?_
    refine xput (C := RX6) (T := TX6) (N := 2) hx hb (ci := 6) (ty := .int) hts hiX6 tyX6 tyX6_ok nmX6 hown hG hw hS (by repeat first | assumption | exact wu_eq _ _ _ | refine wu_ne (by omega) ?_) rfl 1 (by decide) hk0 (fun _ h9 => h9) rfl (by decide +kernel) rfl rfl (Nat.le_of_ble_eq_true rfl) dX6_passTo_21 (fun H locs hzz hw hS => ?_)
    refine xaload_n hx hb dX6_passTo_24 hl rfl ?_
    refine xget (C := RX6) (T := TX6) (N := 2) hx hb (ci := 6) hts hiX6 hown hG hw (by repeat first | assumption | exact wu_eq _ _ _ | refine wu_ne (by omega) ?_) rfl 0 (by decide) hk1 (fun _ h9 => h9) rfl dX6_passTo_25 ?_
    refine xaload_n hx hb dX6_passTo_28 hl rfl ?_
    refine xget (C := RX6) (T := TX6) (N := 2) hx hb (ci := 6) hts hiX6 hown hG hw (by repeat first | assumption | exact wu_eq _ _ _ | refine wu_ne (by omega) ?_) rfl 1 (by decide) hk0 (fun _ h9 => h9) rfl dX6_passTo_29 ?_
    refine xiload_n hx hb dX6_passTo_32 hl rfl ?_
    refine xiast hx hb hG hw hS (by repeat first | assumption | exact wu_eq _ _ _ | refine wu_ne (by omega) ?_) (by omega) (by omega) dX6_passTo_33 (fun H locs hzz hw hS => ?_)
    exact xvret hx hb hr hlk hw hS dX6_passTo_34 ⟨passTo_rep hp0 hp1 hlen0 hl40 hf, (Out.rf.wu (by omega) (by omega)).wu (by omega) (by omega)⟩
set_option maxHeartbeats 4000000 in
set_option maxRecDepth 100000 in
theorem kX6_takeBack (l : Launch) (N0 : Nat) (G : XG) (w : Wd) (p0 : Nat) (h : List Nat) (hp : RPen G w p0 h) (hl2 : 2 ≤ h.length) : XM l yX6_takeBack wsX6_takeBack (rmD 1) N0 G [.ref p0] w vV (fun _ w1 => RPen G w1 p0 h.tail ∧ Out w w1 p0 (p0 + 2)) 0 0 := by
  refine XM.of (cc := cX6_takeBack) (maxL := 1) (ret := none) (by decide) rfl (Nat.le_of_ble_eq_true rfl) ?_
  intro p e s m below meth c hx hb hr hlk hin0 hml hown hts hN hw hG hS ls hl
  have hown : s.vm.findClass RX6 = some m.cls := hown
  have hiX6 : ∀ x ∈ u_ws RX6 TX6 2, x ∈ wsX6_takeBack := by decide +kernel
  have hk0 := hts (.fieldLink RX6 15 "LentQuill$Pen" "lent" "I") (by decide +kernel)
  have hl : lh ls 1 [some (.ref p0)] := hl
  obtain ⟨f, hp0, hp1, hlen0, hlen, hf⟩ := hp
  refine xaload_n hx hb dX6_takeBack_0 hl rfl ?_
  refine xget (C := RX6) (T := TX6) (N := 2) hx hb (ci := 6) hts hiX6 hown hG hw (by repeat first | assumption | exact wu_eq _ _ _ | refine wu_ne (by omega) ?_) rfl 1 (by decide) hk0 (fun _ h9 => h9) rfl dX6_takeBack_1 ?_
  refine xif_le (tgt := 17) hx hb dX6_takeBack_4 (by decide) (by omega) (fun c4 => ?_) (fun c4 => ?_)
  · skip
    exfalso
    omega
  · skip
    refine xaload_n hx hb dX6_takeBack_7 hl rfl ?_
    refine lv_dup hx hb dX6_takeBack_8 rfl ?_
    refine xget (C := RX6) (T := TX6) (N := 2) hx hb (ci := 6) hts hiX6 hown hG hw (by repeat first | assumption | exact wu_eq _ _ _ | refine wu_ne (by omega) ?_) rfl 1 (by decide) hk0 (fun _ h9 => h9) rfl dX6_takeBack_9 ?_
    refine lv_iconst (v := nI 1) hx hb dX6_takeBack_12 (by decide) ?_
    first | refine xsub hx hb dX6_takeBack_13 (by omega) ?_ | refine lv_isub hx hb dX6_takeBack_13 ?_
    refine xput (C := RX6) (T := TX6) (N := 2) hx hb (ci := 6) (ty := .int) hts hiX6 tyX6 tyX6_ok nmX6 hown hG hw hS (by repeat first | assumption | exact wu_eq _ _ _ | refine wu_ne (by omega) ?_) rfl 1 (by decide) hk0 (fun _ h9 => h9) rfl (by decide +kernel) rfl rfl (Nat.le_of_ble_eq_true rfl) dX6_takeBack_14 (fun H locs hzz hw hS => ?_)
    exact xvret hx hb hr hlk hw hS dX6_takeBack_17 ⟨takeBack_rep hp0 hp1 hl2 hlen hf, Out.rf.wu (by omega) (by omega)⟩
set_option maxHeartbeats 4000000 in
set_option maxRecDepth 100000 in
theorem kX6_startWith (l : Launch) (N0 : Nat) (G : XG) (w : Wd) (p0 : Nat) (h : List Nat) (hp : RPen G w p0 h) (t : Nat) : XM l yX6_startWith wsX6_startWith (rmD 1) N0 G [.ref p0, .int (nI t)] w vV (fun _ w1 => RPen G w1 p0 [t] ∧ Out w w1 p0 (p0 + 2)) 0 0 := by
  refine XM.of (cc := cX6_startWith) (maxL := 2) (ret := none) (by decide) rfl (Nat.le_of_ble_eq_true rfl) ?_
  intro p e s m below meth c hx hb hr hlk hin0 hml hown hts hN hw hG hS ls hl
  have hown : s.vm.findClass RX6 = some m.cls := hown
  have hiX6 : ∀ x ∈ u_ws RX6 TX6 2, x ∈ wsX6_startWith := by decide +kernel
  have hk0 := hts (.fieldLink RX6 9 "LentQuill$Pen" "hands" "[I") (by decide +kernel)
  have hk1 := hts (.fieldLink RX6 15 "LentQuill$Pen" "lent" "I") (by decide +kernel)
  have hl : lh ls 2 [some (.ref p0), some (.int (nI t))] := hl
  obtain ⟨f, hp0, hp1, hlen0, hlen, hf⟩ := hp
  refine xaload_n hx hb dX6_startWith_0 hl rfl ?_
  refine xget (C := RX6) (T := TX6) (N := 2) hx hb (ci := 6) hts hiX6 hown hG hw (by repeat first | assumption | exact wu_eq _ _ _ | refine wu_ne (by omega) ?_) rfl 0 (by decide) hk0 (fun _ h9 => h9) rfl dX6_startWith_1 ?_
  refine lv_iconst (v := nI 0) hx hb dX6_startWith_4 (by decide) ?_
  refine xiload_n hx hb dX6_startWith_5 hl rfl ?_
  refine xiast hx hb hG hw hS (by repeat first | assumption | exact wu_eq _ _ _ | refine wu_ne (by omega) ?_) (by omega) (by omega) dX6_startWith_6 (fun H locs hzz hw hS => ?_)
  refine xaload_n hx hb dX6_startWith_7 hl rfl ?_
  refine lv_iconst (v := nI 0) hx hb dX6_startWith_8 (by decide) ?_
  refine xput (C := RX6) (T := TX6) (N := 2) hx hb (ci := 6) (ty := .int) hts hiX6 tyX6 tyX6_ok nmX6 hown hG hw hS (by repeat first | assumption | exact wu_eq _ _ _ | refine wu_ne (by omega) ?_) rfl 1 (by decide) hk1 (fun _ h9 => h9) rfl (by decide +kernel) rfl rfl (Nat.le_of_ble_eq_true rfl) dX6_startWith_9 (fun H locs hzz hw hS => ?_)
  exact xvret hx hb hr hlk hw hS dX6_startWith_12 ⟨startWith_rep hp0 hp1, (Out.rf.wu (by omega) (by omega)).wu (by omega) (by omega)⟩
set_option maxHeartbeats 4000000 in
set_option maxRecDepth 100000 in
theorem kX6_copyFrom (l : Launch) (N0 : Nat) (G : XG) (w : Wd) (p0 : Nat) (h : List Nat) (hp : RPen G w p0 h) (q0 : Nat) (g : List Nat) (hq : RPen G w q0 g) (hne : p0 + 2 ≤ q0 ∨ q0 + 2 ≤ p0) : XM l yX6_copyFrom wsX6_copyFrom (rmD 1) N0 G [.ref p0, .ref q0] w vV (fun _ w1 => RPen G w1 p0 g ∧ Out w w1 p0 (p0 + 2)) 0 0 := by
  refine XM.of (cc := cX6_copyFrom) (maxL := 2) (ret := none) (by decide) rfl (Nat.le_of_ble_eq_true rfl) ?_
  intro p e s m below meth c hx hb hr hlk hin0 hml hown hts hN hw hG hS ls hl
  have hown : s.vm.findClass RX6 = some m.cls := hown
  have hiX6 : ∀ x ∈ u_ws RX6 TX6 2, x ∈ wsX6_copyFrom := by decide +kernel
  have hk0 := hts (.fieldLink RX6 9 "LentQuill$Pen" "hands" "[I") (by decide +kernel)
  have hk1 := hts (.methodLink RX6 19 arraycopyName) (by decide +kernel)
  have hk2 := hts (.native arraycopyName) (by decide +kernel)
  have hk3 := hts (.static arraycopyName) (by decide +kernel)
  have hk4 := hts (.initialized "java/lang/System") (by decide +kernel)
  have hk5 := hts (.fieldLink RX6 15 "LentQuill$Pen" "lent" "I") (by decide +kernel)
  have hl : lh ls 2 [some (.ref p0), some (.ref q0)] := hl
  obtain ⟨f, hp0, hp1, hlen0, hlen, hf⟩ := hp
  obtain ⟨f2, hq0, hq1, hlen02, hlen2, hf2⟩ := hq
  refine xaload_n hx hb dX6_copyFrom_0 hl rfl ?_
  refine xget (C := RX6) (T := TX6) (N := 2) hx hb (ci := 6) hts hiX6 hown hG hw (by repeat first | assumption | exact wu_eq _ _ _ | refine wu_ne (by omega) ?_) rfl 0 (by decide) hk0 (fun _ h9 => h9) rfl dX6_copyFrom_1 ?_
  refine lv_iconst (v := nI 0) hx hb dX6_copyFrom_4 (by decide) ?_
  refine xaload_n hx hb dX6_copyFrom_5 hl rfl ?_
  refine xget (C := RX6) (T := TX6) (N := 2) hx hb (ci := 6) hts hiX6 hown hG hw (by repeat first | assumption | exact wu_eq _ _ _ | refine wu_ne (by omega) ?_) rfl 0 (by decide) hk0 (fun _ h9 => h9) rfl dX6_copyFrom_6 ?_
  refine lv_iconst (v := nI 0) hx hb dX6_copyFrom_9 (by decide) ?_
  refine xaload_n hx hb dX6_copyFrom_10 hl rfl ?_
  refine xget (C := RX6) (T := TX6) (N := 2) hx hb (ci := 6) hts hiX6 hown hG hw (by repeat first | assumption | exact wu_eq _ _ _ | refine wu_ne (by omega) ?_) rfl 0 (by decide) hk0 (fun _ h9 => h9) rfl dX6_copyFrom_11 ?_
  first | refine xalenI hx hb hG hw (by repeat first | assumption | exact wu_eq _ _ _ | refine wu_ne (by omega) ?_) dX6_copyFrom_14 ?_ | refine xalenP hx hb hG hw (by repeat first | assumption | exact wu_eq _ _ _ | refine wu_ne (by omega) ?_) dX6_copyFrom_14 ?_ | refine xalenN hx hb hG hw (by repeat first | assumption | exact wu_eq _ _ _ | refine wu_ne (by omega) ?_) dX6_copyFrom_14 ?_
  refine xcopy hx hb hml hl.1 hown hk1 hk2 hk3 hk4 hG hw hS (by repeat first | assumption | exact wu_eq _ _ _ | refine wu_ne (by omega) ?_) (by repeat first | assumption | exact wu_eq _ _ _ | refine wu_ne (by omega) ?_) (by omega) (by omega) (by omega) (Nat.le_of_ble_eq_true rfl) (Nat.le_of_ble_eq_true rfl) dX6_copyFrom_15 (fun H locs hzz hw hS => ?_)
  refine xaload_n hx hb dX6_copyFrom_18 hl rfl ?_
  refine xaload_n hx hb dX6_copyFrom_19 hl rfl ?_
  refine xget (C := RX6) (T := TX6) (N := 2) hx hb (ci := 6) hts hiX6 hown hG hw (by repeat first | assumption | exact wu_eq _ _ _ | refine wu_ne (by omega) ?_) rfl 1 (by decide) hk5 (fun _ h9 => h9) rfl dX6_copyFrom_20 ?_
  refine xput (C := RX6) (T := TX6) (N := 2) hx hb (ci := 6) (ty := .int) hts hiX6 tyX6 tyX6_ok nmX6 hown hG hw hS (by repeat first | assumption | exact wu_eq _ _ _ | refine wu_ne (by omega) ?_) rfl 1 (by decide) hk5 (fun _ h9 => h9) rfl (by decide +kernel) rfl rfl (Nat.le_of_ble_eq_true rfl) dX6_copyFrom_23 (fun H locs hzz hw hS => ?_)
  exact xvret hx hb hr hlk hw hS dX6_copyFrom_26 ⟨copyFrom_rep hp0 hp1 hlen02 hlen2 hf2, (Out.rf.wu (by omega) (by omega)).wu (by omega) (by omega)⟩
