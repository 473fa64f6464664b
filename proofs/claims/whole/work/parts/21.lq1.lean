/-! ===== LentQuill ===== -/
section XN
variable {p : Program} {l : Launch} {e : Env} {R : Room} {s : State} {m : MethodId} {args : Array Value} {below : List Frame} {meth : Method} {c : Code} {H : Heap} {locs : List Loc} {cells slots : Nat} {Q : State → Prop}
variable {cc : ByteArray} {pc : Nat} {ls : Array Slot} {rest : List Value} {nL : Nat} {vs : List (Option Value)}
theorem xaload_nN (hexec : p.tables.exec = Jvm.exec) (hb : c.code = cc) {k : Fin 4} (hdg : decode cc pc = .ok (.aload_n k, 1)) (hl : lh ls nL vs) (hk : vs[(k : Nat)]? = some (some .null)) (kk : W p l e R s m args below meth c H locs cells slots Q (F0 m (pc + 1) ls (.null :: rest))) : W p l e R s m args below meth c H locs cells slots Q (F0 m pc ls rest) := lv_aload_nN hexec hb hdg rfl (lh_at hl _ hk) kk
theorem xaloadN (hexec : p.tables.exec = Jvm.exec) (hb : c.code = cc) {i : Nat} (hdg : decode cc pc = .ok (.aload i, 2)) (hl : lh ls nL vs) (hk : vs[i]? = some (some .null)) (kk : W p l e R s m args below meth c H locs cells slots Q (F0 m (pc + 2) ls (.null :: rest))) : W p l e R s m args below meth c H locs cells slots Q (F0 m pc ls rest) := lv_aloadN hexec hb hdg (lh_at hl _ hk) kk
theorem xastoreN (hexec : p.tables.exec = Jvm.exec) (hb : c.code = cc) {i : Nat} (hdg : decode cc pc = .ok (.astore i, 2)) (hl : lh ls nL vs) (hn : i < nL) (hok : lh_ok vs i = true) (kk : ∀ ls', lh ls' nL (vs.set i (some .null)) → W p l e R s m args below meth c H locs cells slots Q (F0 m (pc + 2) ls' rest)) : W p l e R s m args below meth c H locs cells slots Q (F0 m pc ls (.null :: rest)) := lv_astoreN hexec hb hdg hl hn rfl (fun ls' h => kk ls' (lh_st1 hok h))
end XN
theorem rawin {x : Int32} {a b : Nat} (h1 : ¬ x < nI a) (h2 : x ≤ nI b) (ha : a < 2 ^ 31) (hb : b < 2 ^ 31) : inR x (b + 1) := by
  rw [Int32.lt_iff_toInt_lt, nI_toInt ha] at h1
  rw [Int32.le_iff_toInt_le, nI_toInt hb] at h2
  exact ⟨by omega, by omega⟩
theorem rawin0 {x : Int32} {b : Nat} (h1 : ¬ x < 0) (h2 : x ≤ nI b) (hb : b < 2 ^ 31) : inR x (b + 1) := by
  rw [← nI_0] at h1
  exact rawin h1 h2 (by omega) hb
theorem rawin2 {x : Int32} {a b : Nat} (h1 : ¬ x < nI a) (h2 : ¬ nI b < x) (ha : a < 2 ^ 31) (hb : b < 2 ^ 31) : inR x (b + 1) := rawin h1 (by rw [Int32.lt_iff_toInt_lt] at h2; rw [Int32.le_iff_toInt_le]; omega) ha hb
theorem rawin3 {x : Int32} {b : Nat} (h1 : ¬ x < 0) (h2 : ¬ nI b < x) (hb : b < 2 ^ 31) : inR x (b + 1) := by
  rw [← nI_0] at h1
  exact rawin2 h1 h2 (by omega) hb
theorem RBooks.cell {G : XG} {w : Wd} {b : Nat} {pn : Nat → List Nat} {ds : List (Nat × Nat)} {hd : List (Nat × Bool)} (h : RBooks G w b pn ds hd) : w b = some (eO 2 [.ref (b + 1), .ref (b + 2), .ref (b + 3), .int (nI ds.length), .int (nI hd.length), .int (nI (hbs hd true)), .int (nI (hbs hd false))]) := h.choose_spec.choose_spec.choose_spec.1
theorem RBooks.pen {G : XG} {w : Wd} {b i : Nat} {pn : Nat → List Nat} {ds : List (Nat × Nat)} {hd : List (Nat × Bool)} (h : RBooks G w b pn ds hd) (hi : i < 5) : RPen G w (b + 4 + 2 * i) (pn i) := by
  obtain ⟨g, fd, fb, a0, a1, a2, a3, a4, a5, a6, a7, a8, a9, a10⟩ := h
  exact a10 i hi
theorem RBooks.six {G : XG} {w : Wd} {b : Nat} {pn : Nat → List Nat} {ds : List (Nat × Nat)} {hd : List (Nat × Bool)} (h : RBooks G w b pn ds hd) : ds.length ≤ 6 ∧ hd.length ≤ 6 ∧ ∀ i, i < ds.length → dbt ds i ≤ 9 ∧ bd ds i < 32 := by
  obtain ⟨g, fd, fb, a0, a1, a2, a3, a4, a5, a6, a7, a8, a9, a10⟩ := h
  exact ⟨a4, a5, a8⟩
theorem RLQ.bks {G : XG} {w w1 : Wd} {x0 Z : Nat} {S : QS} {B : Bk} (hR : RLQ G w x0 Z S) (ho : Out w w1 (x0 + 5) (x0 + 5 + 14)) (hB : RBooks G w1 (x0 + 5) B.1 B.2.1 B.2.2) (hz : x0 + 52 ≤ Z) : RLQ G w1 x0 Z (stB S B) := by
  obtain ⟨a0, a1, a2, a3, ⟨Bi, a4, a4e⟩, ⟨h, T, fw, fr, a5⟩, ⟨ds, hd, F, a6⟩⟩ := hR
  exact ⟨(ho _ (by omega)).trans a0, a1.out ho (by omega), a2.out ho (by omega) (by omega), hB, ⟨Bi, a4.out ho (by omega), a4e⟩, ⟨h, T, fw, fr, a5.out ho (by omega)⟩, ⟨ds, hd, F, a6.out ho (by omega)⟩⟩
theorem RLQ.pag {G : XG} {w w1 : Wd} {x0 Z : Nat} {S : QS} {pg : List Nat} (hR : RLQ G w x0 Z S) (ho : Out w w1 (x0 + 1) (x0 + 1 + 2)) (hP : RPage G w1 (x0 + 1) pg) (hz : x0 + 52 ≤ Z) : RLQ G w1 x0 Z (pg, S.2) := by
  obtain ⟨a0, a1, a2, a3, ⟨Bi, a4, a4e⟩, ⟨h, T, fw, fr, a5⟩, ⟨ds, hd, F, a6⟩⟩ := hR
  exact ⟨(ho _ (by omega)).trans a0, hP, a2.out ho (by omega) (by omega), a3.out ho (by omega), ⟨Bi, a4.out ho (by omega), a4e⟩, ⟨h, T, fw, fr, a5.out ho (by omega)⟩, ⟨ds, hd, F, a6.out ho (by omega)⟩⟩
theorem RLQ.sr {G : XG} {w w1 : Wd} {x0 Z : Nat} {S : QS} {h1 : List Nat} {T1 : TS} {fw1 fr1 : Int32} (hR : RLQ G w x0 Z S) (ho : Out w w1 (x0 + 33) (x0 + 33 + 4)) (hP : RSrch G w1 (x0 + 33) h1 T1 fw1 fr1) (hz : x0 + 52 ≤ Z) : RLQ G w1 x0 Z S := by
  obtain ⟨a0, a1, a2, a3, ⟨Bi, a4, a4e⟩, ⟨h, T, fw, fr, a5⟩, ⟨ds, hd, F, a6⟩⟩ := hR
  exact ⟨(ho _ (by omega)).trans a0, a1.out ho (by omega), a2.out ho (by omega) (by omega), a3.out ho (by omega), ⟨Bi, a4.out ho (by omega), a4e⟩, ⟨_, _, _, _, hP⟩, ⟨ds, hd, F, a6.out ho (by omega)⟩⟩
theorem RLQ.fa {G : XG} {w w1 : Wd} {x0 Z : Nat} {S : QS} {ds1 : List (Nat × Nat)} {hd1 : List (Nat × Bool)} {F1 : FS} (hR : RLQ G w x0 Z S) (ho : Out w w1 (x0 + 37) (x0 + 37 + 15)) (hP : RFair G w1 (x0 + 37) ds1 hd1 F1) (hz : x0 + 52 ≤ Z) : RLQ G w1 x0 Z S := by
  obtain ⟨a0, a1, a2, a3, ⟨Bi, a4, a4e⟩, ⟨h, T, fw, fr, a5⟩, ⟨ds, hd, F, a6⟩⟩ := hR
  exact ⟨(ho _ (by omega)).trans a0, a1.out ho (by omega), a2.out ho (by omega) (by omega), a3.out ho (by omega), ⟨Bi, a4.out ho (by omega), a4e⟩, ⟨h, T, fw, fr, a5.out ho (by omega)⟩, ⟨_, _, _, hP⟩⟩
theorem RLQ.img {G : XG} {w w1 : Wd} {x0 Z : Nat} {S : QS} (hR : RLQ G w x0 Z S) (ho : Out w w1 (x0 + 19) (x0 + 19 + 14)) (hB : RBooks G w1 (x0 + 19) (sB S).1 (sB S).2.1 (sB S).2.2) (hz : x0 + 52 ≤ Z) : RLQ G (wu w1 x0 (eO 11 [.ref (x0 + 1), .ref (x0 + 3), .ref (x0 + 5), .ref (x0 + 19), .ref (x0 + 33), .ref (x0 + 37), .int (nI 1), .int (nI (sT S)), .int (nI (sA S))])) x0 Z (S.1, S.2.1, S.2.2.1, S.2.2.2.1, some (sB S), S.2.2.2.2.2) := by
  obtain ⟨a0, a1, a2, a3, ⟨Bi, a4, a4e⟩, ⟨h, T, fw, fr, a5⟩, ⟨ds, hd, F, a6⟩⟩ := hR
  have o2 : Out w1 (wu w1 x0 (eO 11 [.ref (x0 + 1), .ref (x0 + 3), .ref (x0 + 5), .ref (x0 + 19), .ref (x0 + 33), .ref (x0 + 37), .int (nI 1), .int (nI (sT S)), .int (nI (sA S))])) x0 (x0 + 1) := Out.rf.wu (Nat.le_refl _) (by omega)
  exact ⟨wu_eq _ _ _, (a1.out ho (by omega)).out o2 (by omega), (a2.out ho (by omega) (by omega)).out o2 (by omega) (by omega), (a3.out ho (by omega)).out o2 (by omega), ⟨sB S, hB.out o2 (by omega), fun B2 h2 => (Option.some.inj h2).symm⟩, ⟨h, T, fw, fr, (a5.out ho (by omega)).out o2 (by omega)⟩, ⟨ds, hd, F, (a6.out ho (by omega)).out o2 (by omega)⟩⟩
theorem RLQ.asks {G : XG} {w : Wd} {x0 Z : Nat} {S : QS} (hR : RLQ G w x0 Z S) (hz : x0 + 52 ≤ Z) : RLQ G (wu w x0 (eO 11 [.ref (x0 + 1), .ref (x0 + 3), .ref (x0 + 5), .ref (x0 + 19), .ref (x0 + 33), .ref (x0 + 37), .int (bI (sI S).isSome), .int (nI (sT S)), .int (nI (sA S + 1))])) x0 Z (S.1, S.2.1, S.2.2.1, S.2.2.2.1, S.2.2.2.2.1, S.2.2.2.2.2.1, sA S + 1) := by
  obtain ⟨a0, a1, a2, a3, ⟨Bi, a4, a4e⟩, ⟨h, T, fw, fr, a5⟩, ⟨ds, hd, F, a6⟩⟩ := hR
  have o2 : Out w (wu w x0 (eO 11 [.ref (x0 + 1), .ref (x0 + 3), .ref (x0 + 5), .ref (x0 + 19), .ref (x0 + 33), .ref (x0 + 37), .int (bI (sI S).isSome), .int (nI (sT S)), .int (nI (sA S + 1))])) x0 (x0 + 1) := Out.rf.wu (Nat.le_refl _) (by omega)
  exact ⟨wu_eq _ _ _, a1.out o2 (by omega), a2.out o2 (by omega) (by omega), a3.out o2 (by omega), ⟨Bi, a4.out o2 (by omega), a4e⟩, ⟨h, T, fw, fr, a5.out o2 (by omega)⟩, ⟨ds, hd, F, a6.out o2 (by omega)⟩⟩
theorem pens5 {S : QS} {q : Nat} (hW : WF S) (hn : sn S ≤ 5) (hq : q < sn S) : sumTo (fun i => if (sB S).1 i |>.getD 0 0 |> (· = q) then 1 else 0) 5 = sumTo (fun i => if (sp S i).getD 0 0 = q then 1 else 0) (sn S) := sum_tail (fun i h1 h2 => by
  have := (hW.1.2.1 i h1 h2).2.1
  exact if_neg (by omega)) 5 hn (by omega)
theorem lent5 {B : Bk} {n : Nat} (hW : WFB n B) (hn : n ≤ 5) : sumTo (fun i => (B.1 i).length - 1) 5 = lentN B n := sum_tail (fun i h1 h2 => by rw [(hW.2.1 i h1 h2).1]) 5 hn (by omega)
theorem hsm5 {S : QS} (hW : WF S) (hn : sn S ≤ 5) {w : Wd} {G : XG} {b : Nat} (hB : RBooks G w b (sB S).1 (sB S).2.1 (sB S).2.2) : ∀ i, i < 5 → ((sB S).1 i).getD 0 0 < 100 := fun i hi => by
  rcases Nat.lt_or_ge i (sn S) with q | q
  · have := getD_lt (hW.1.1 i q) (hB.pen hi).len.1
    omega
  · exact (hW.1.2.1 i q hi).2.2
theorem letter_cases (S : QS) (x : Int32) : (∃ i, i < 127 ∧ 32 ≤ i ∧ (sg S).length < 18 ∧ x = nI i) ∨ (∃ i, i < 127 ∧ 32 ≤ i ∧ 18 ≤ (sg S).length ∧ x = nI i) ∨ ¬ (¬ x < nI 32 ∧ x ≤ nI 126) := by
  rcases inR_or x 127 with ⟨i, h1, -, rfl⟩ | h
  · rcases Nat.lt_or_ge i 32 with q | q
    · exact Or.inr (Or.inr (fun z => z.1 (nI_lt q (by omega))))
    · rcases Nat.lt_or_ge (sg S).length 18 with z | z
      · exact Or.inl ⟨i, h1, q, z, rfl⟩
      · exact Or.inr (Or.inl ⟨i, h1, q, z, rfl⟩)
  · exact Or.inr (Or.inr (fun z => h (rawin z.1 z.2 (by omega) (by omega))))
theorem letter_in {S : QS} {i : Nat} (hi : i < 127) (h32 : 32 ≤ i) (hlt : (sg S).length < 18) : o_letter S (nI i) = (nI ((sg S).length + 1), (sg S ++ [i], S.2)) := by
  rw [o_letter, onR_in hi (by omega), if_neg (by omega), if_neg (by omega)]
theorem letter_full {S : QS} {i : Nat} (hi : i < 127) (h32 : 32 ≤ i) (hlt : 18 ≤ (sg S).length) : o_letter S (nI i) = (-104, S) := by
  rw [o_letter, onR_in hi (by omega), if_neg (by omega), if_pos hlt]
theorem letter_no {S : QS} {x : Int32} (h : ¬ (¬ x < nI 32 ∧ x ≤ nI 126)) : o_letter S x = (-102, S) := by
  unfold o_letter
  rcases inR_or x 127 with ⟨i, h1, h31, rfl⟩ | h2
  · rw [onR_in h1 h31]
    refine if_pos ?_
    rcases Nat.lt_or_ge i 32 with q | q
    · exact q
    · exact absurd ⟨nI_nlt q h31, nI_le (by omega) (by omega)⟩ h
  · exact onR_out h2 _ _
theorem lend_no {S : QS} {i k : Nat} (hi : i < sn S) (hi31 : i < 2 ^ 31) (hk : k < sn S) (hk31 : k < 2 ^ 31) (h : ¬ (((sB S).1 i).getD 0 0 ≠ k ∧ chu (kd (sP S) (((sB S).1 i).getD 0 0)) = false)) : o_lend S (nI i) (nI k) = (-103, S) := by
  rw [o_lend, onR_in hi hi31, onR_in hk hk31]
  exact if_neg h
theorem lend_full {S : QS} {i k : Nat} (hi : i < sn S) (hi31 : i < 2 ^ 31) (hk : k < sn S) (hk31 : k < 2 ^ 31) (h : ((sB S).1 i).getD 0 0 ≠ k ∧ chu (kd (sP S) (((sB S).1 i).getD 0 0)) = false) (h4 : 41 ≤ ((sB S).1 i).length) : o_lend S (nI i) (nI k) = (-104, S) := by
  rw [o_lend, onR_in hi hi31, onR_in hk hk31]
  exact (if_pos h).trans (if_pos h4)
theorem lend_yes {S : QS} {i k : Nat} (hi : i < sn S) (hi31 : i < 2 ^ 31) (hk : k < sn S) (hk31 : k < 2 ^ 31) (h : ((sB S).1 i).getD 0 0 ≠ k ∧ chu (kd (sP S) (((sB S).1 i).getD 0 0)) = false) (h4 : ¬ 41 ≤ ((sB S).1 i).length) : o_lend S (nI i) (nI k) = (nI (bnd (sP S) (sL S) (k :: sp S i)), lendS S i k) := by
  rw [o_lend, onR_in hi hi31, onR_in hk hk31]
  exact (if_pos h).trans (if_neg h4)
set_option maxHeartbeats 4000000 in
set_option maxRecDepth 100000 in
theorem kX11_penOf (l : Launch) (N0 : Nat) (G : XG) (w : Wd) (x0 Z : Nat) (S : QS) (hR : RLQ G w x0 Z S) (hW : WF S) (hZx : x0 + 52 ≤ Z) (i : Nat) (hi : i < sn S) : XM l yX11_penOf wsX11_penOf (rmD 3) N0 G [.ref x0, .int (nI i)] w vR (fun r w1 => some (x0 + 5 + 4 + 2 * i) = r ∧ w = w1) 0 0 := by
  refine XM.of (cc := cX11_penOf) (maxL := 2) (ret := (some (.object "LentQuill$Pen"))) (by decide) rfl (Nat.le_of_ble_eq_true rfl) ?_
  intro p e s m below meth c hx hb hr hlk hin0 hml hown hts hN hw hG hS ls hl
  have hown : s.vm.findClass RX11 = some m.cls := hown
  have hiX11 : ∀ x ∈ u_ws RX11 TX11 9, x ∈ wsX11_penOf := by decide +kernel
  have hlnk0 := hts (.fieldLink RX11 19 "LentQuill" "town" "LLentQuill$Town;") (by decide +kernel)
  have hlnk1 := hts (.fieldLink RX11 26 "LentQuill" "books" "LLentQuill$Books;") (by decide +kernel)
  have hl : lh ls 2 [some (.ref x0), some (.int (nI i))] := hl
  obtain ⟨hx0, hPg, hTn, hBk, ⟨Bi, hBi, hBie⟩, ⟨hs, Ts, fw, fr, hSr⟩, ⟨dsF, hdF, F, hFr⟩⟩ := id hR
  obtain ⟨h5, hlim⟩ := hTn.five
  have hsn : sn S = (sP S).length := rfl
  have hpgc := hPg.cell
  have htnc := hTn.cell
  have hbkc := hBk.cell
  have hbic := hBi.cell
  have hsrc := hSr.cell
  have hfrc := hFr.1
  obtain ⟨hd6, hh6, hdw⟩ := hBk.six
  have hsd : (sd S).length = (sB S).2.1.length := rfl
  have hsh : (sh S).length = (sB S).2.2.length := rfl
  refine xaload_n hx hb dX11_penOf_0 hl rfl ?_
  refine xget (C := RX11) (T := TX11) (N := 9) hx hb (ci := 11) hts hiX11 hown hG hw (by repeat first | assumption | exact wu_eq _ _ _ | refine wu_ne (by omega) ?_) rfl 1 (by decide) hlnk0 (fun _ h9 => h9) rfl dX11_penOf_1 ?_
  refine xiload_n hx hb dX11_penOf_4 hl rfl ?_
  refine xVr ⟨hx, hb, hml, hown, hts⟩ (kX10_one l N0 G _ _ Z _ _ hTn i hi) (cwV 1 hts gX11_penOf_X10_one rfl rfl rfl (by decide +kernel) ⟨Nat.le_of_ble_eq_true rfl, Nat.le_of_ble_eq_true rfl⟩) hG hN hw hS (ci := 10) (by repeat first | assumption | exact wu_eq _ _ _ | refine wu_ne (by omega) ?_) rfl rfl hl.1 rfl (Nat.le_of_ble_eq_true rfl) dX11_penOf_5 ⟨Nat.le_of_ble_eq_true rfl, Nat.le_of_ble_eq_true rfl⟩ (fun r5 w5 H locs hp5 hw hS => ?_)
  obtain ⟨⟨q, rfl, hqZ, hq⟩, rfl⟩ := hp5
  refine xrf rfl ?_
  refine lv_ifnonnull (tgt := 15) hx hb dX11_penOf_8 (by decide) ?_
  refine xaload_n hx hb dX11_penOf_15 hl rfl ?_
  refine xget (C := RX11) (T := TX11) (N := 9) hx hb (ci := 11) hts hiX11 hown hG hw (by repeat first | assumption | exact wu_eq _ _ _ | refine wu_ne (by omega) ?_) rfl 2 (by decide) hlnk1 (fun _ h9 => h9) rfl dX11_penOf_16 ?_
  refine xiload_n hx hb dX11_penOf_19 hl rfl ?_
  refine xVr ⟨hx, hb, hml, hown, hts⟩ (kX2_pen l N0 G _ _ _ _ _ hBk i (by omega)) (cwV 1 hts gX11_penOf_X2_pen rfl rfl rfl (by decide +kernel) ⟨Nat.le_of_ble_eq_true rfl, Nat.le_of_ble_eq_true rfl⟩) hG hN hw hS (ci := 2) (by repeat first | assumption | exact wu_eq _ _ _ | refine wu_ne (by omega) ?_) rfl rfl hl.1 rfl (Nat.le_of_ble_eq_true rfl) dX11_penOf_20 ⟨Nat.le_of_ble_eq_true rfl, Nat.le_of_ble_eq_true rfl⟩ (fun r20 w20 H locs hp20 hw hS => ?_)
  obtain ⟨rfl, rfl⟩ := hp20
  refine xrf rfl ?_
  first | exact xaretS hx hb hr hlk hw hS dX11_penOf_23 ⟨rfl, rfl⟩ | exact xaretN hx hb hr hlk hw hS dX11_penOf_23 ⟨rfl, rfl⟩ | exact xaret hx hb hr hlk hw hS dX11_penOf_23 ⟨rfl, rfl⟩
set_option maxHeartbeats 4000000 in
set_option maxRecDepth 100000 in
theorem kX11_penOf_out (l : Launch) (N0 : Nat) (G : XG) (w : Wd) (x0 Z : Nat) (S : QS) (hR : RLQ G w x0 Z S) (hW : WF S) (hZx : x0 + 52 ≤ Z) (x : Int32) (hx1 : ¬ inR x (sn S)) : XM l yX11_penOf wsX11_penOf (rmD 3) N0 G [.ref x0, .int x] w vR (fun r w1 => none = r ∧ w = w1) 0 0 := by
  refine XM.of (cc := cX11_penOf) (maxL := 2) (ret := (some (.object "LentQuill$Pen"))) (by decide) rfl (Nat.le_of_ble_eq_true rfl) ?_
  intro p e s m below meth c hx hb hr hlk hin0 hml hown hts hN hw hG hS ls hl
  have hown : s.vm.findClass RX11 = some m.cls := hown
  have hiX11 : ∀ x ∈ u_ws RX11 TX11 9, x ∈ wsX11_penOf := by decide +kernel
  have hlnk0 := hts (.fieldLink RX11 19 "LentQuill" "town" "LLentQuill$Town;") (by decide +kernel)
  have hl : lh ls 2 [some (.ref x0), some (.int x)] := hl
  obtain ⟨hx0, hPg, hTn, hBk, ⟨Bi, hBi, hBie⟩, ⟨hs, Ts, fw, fr, hSr⟩, ⟨dsF, hdF, F, hFr⟩⟩ := id hR
  obtain ⟨h5, hlim⟩ := hTn.five
  have hsn : sn S = (sP S).length := rfl
  have hpgc := hPg.cell
  have htnc := hTn.cell
  have hbkc := hBk.cell
  have hbic := hBi.cell
  have hsrc := hSr.cell
  have hfrc := hFr.1
  obtain ⟨hd6, hh6, hdw⟩ := hBk.six
  have hsd : (sd S).length = (sB S).2.1.length := rfl
  have hsh : (sh S).length = (sB S).2.2.length := rfl
  refine xaload_n hx hb dX11_penOf_0 hl rfl ?_
  refine xget (C := RX11) (T := TX11) (N := 9) hx hb (ci := 11) hts hiX11 hown hG hw (by repeat first | assumption | exact wu_eq _ _ _ | refine wu_ne (by omega) ?_) rfl 1 (by decide) hlnk0 (fun _ h9 => h9) rfl dX11_penOf_1 ?_
  refine xiload_n hx hb dX11_penOf_4 hl rfl ?_
  refine xVr ⟨hx, hb, hml, hown, hts⟩ (kX10_one_out l N0 G _ _ Z _ _ hTn _ hx1) (cwV 1 hts gX11_penOf_X10_one rfl rfl rfl (by decide +kernel) ⟨Nat.le_of_ble_eq_true rfl, Nat.le_of_ble_eq_true rfl⟩) hG hN hw hS (ci := 10) (by repeat first | assumption | exact wu_eq _ _ _ | refine wu_ne (by omega) ?_) rfl rfl hl.1 rfl (Nat.le_of_ble_eq_true rfl) dX11_penOf_5 ⟨Nat.le_of_ble_eq_true rfl, Nat.le_of_ble_eq_true rfl⟩ (fun r5 w5 H locs hp5 hw hS => ?_)
  obtain ⟨rfl, rfl⟩ := hp5
  refine xrn rfl ?_
  refine lv_ifnonnullN hx hb dX11_penOf_8 ?_
  refine lv_null hx hb dX11_penOf_11 ?_
  refine lv_goto (tgt := 23) hx hb dX11_penOf_12 (by decide) ?_
  first | exact xaretS hx hb hr hlk hw hS dX11_penOf_23 ⟨rfl, rfl⟩ | exact xaretN hx hb hr hlk hw hS dX11_penOf_23 ⟨rfl, rfl⟩ | exact xaret hx hb hr hlk hw hS dX11_penOf_23 ⟨rfl, rfl⟩
set_option maxHeartbeats 4000000 in
set_option maxRecDepth 100000 in
theorem kX11_letter (l : Launch) (N0 : Nat) (G : XG) (w : Wd) (x0 Z : Nat) (S : QS) (hR : RLQ G w x0 Z S) (hW : WF S) (hZx : x0 + 52 ≤ Z) (x : Int32) : XM l yX11_letter wsX11_letter (rmD 3) N0 G [.ref x0, .int x] w vI (fun r w1 => (o_letter S x).1 = r ∧ RLQ G w1 x0 Z (o_letter S x).2 ∧ Out w w1 x0 (x0 + 52)) 0 0 := by
  refine XM.of (cc := cX11_letter) (maxL := 2) (ret := (some .int)) (by decide) rfl (Nat.le_of_ble_eq_true rfl) ?_
  intro p e s m below meth c hx hb hr hlk hin0 hml hown hts hN hw hG hS ls hl
  have hown : s.vm.findClass RX11 = some m.cls := hown
  have hiX11 : ∀ x ∈ u_ws RX11 TX11 9, x ∈ wsX11_letter := by decide +kernel
  have hlnk0 := hts (.fieldLink RX11 10 "LentQuill" "page" "LLentQuill$Page;") (by decide +kernel)
  have hl : lh ls 2 [some (.ref x0), some (.int x)] := hl
  obtain ⟨hx0, hPg, hTn, hBk, ⟨Bi, hBi, hBie⟩, ⟨hs, Ts, fw, fr, hSr⟩, ⟨dsF, hdF, F, hFr⟩⟩ := id hR
  obtain ⟨h5, hlim⟩ := hTn.five
  have hsn : sn S = (sP S).length := rfl
  have hpgc := hPg.cell
  have htnc := hTn.cell
  have hbkc := hBk.cell
  have hbic := hBi.cell
  have hsrc := hSr.cell
  have hfrc := hFr.1
  obtain ⟨hd6, hh6, hdw⟩ := hBk.six
  have hsd : (sd S).length = (sB S).2.1.length := rfl
  have hsh : (sh S).length = (sB S).2.2.length := rfl
  rcases letter_cases S x with ⟨i, hi, h32, hlt, rfl⟩ | ⟨i, hi, h32, hlt, rfl⟩ | hx1
  · skip
    refine xiload_n hx hb dX11_letter_0 hl rfl ?_
    refine lv_bipush (v := nI 32) hx hb dX11_letter_1 (by decide) ?_
    first | refine xcmp_lt (tgt := 12) hx hb dX11_letter_3 (by decide) (by omega) (by omega) (fun c3 => ?_) (fun c3 => ?_) | refine lv_icmp_lt (tgt := 12) hx hb dX11_letter_3 (by decide) (fun c3 => ?_) (fun c3 => ?_)
    · skip
      exfalso
      omega
    · skip
      refine xiload_n hx hb dX11_letter_6 hl rfl ?_
      refine lv_bipush (v := nI 126) hx hb dX11_letter_7 (by decide) ?_
      first | refine xcmp_le (tgt := 15) hx hb dX11_letter_9 (by decide) (by omega) (by omega) (fun c9 => ?_) (fun c9 => ?_) | refine lv_icmp_le (tgt := 15) hx hb dX11_letter_9 (by decide) (fun c9 => ?_) (fun c9 => ?_)
      · skip
        refine xaload_n hx hb dX11_letter_15 hl rfl ?_
        refine xget (C := RX11) (T := TX11) (N := 9) hx hb (ci := 11) hts hiX11 hown hG hw (by repeat first | assumption | exact wu_eq _ _ _ | refine wu_ne (by omega) ?_) rfl 0 (by decide) hlnk0 (fun _ h9 => h9) rfl dX11_letter_16 ?_
        refine xiload_n hx hb dX11_letter_19 hl rfl ?_
        refine xVi ⟨hx, hb, hml, hown, hts⟩ (kX5_add l N0 G _ _ (sg S) hPg i (by omega) hlt) (cwV 1 hts gX11_letter_X5_add rfl rfl rfl (by decide +kernel) ⟨Nat.le_of_ble_eq_true rfl, Nat.le_of_ble_eq_true rfl⟩) hG hN hw hS (ci := 5) (by repeat first | assumption | exact wu_eq _ _ _ | refine wu_ne (by omega) ?_) rfl rfl hl.1 rfl (Nat.le_of_ble_eq_true rfl) dX11_letter_20 ⟨Nat.le_of_ble_eq_true rfl, Nat.le_of_ble_eq_true rfl⟩ (fun r20 w20 H locs hp20 hw hS => ?_)
        obtain ⟨rfl, hP1, hO1⟩ := hp20
        have hx20 := hO1.at (by omega) hx0
        have hpg20 := hP1.cell
        first | refine xifb_eq (tgt := 36) hx hb dX11_letter_23 (by decide) (fun c23 => ?_) (fun c23 => ?_) | refine xif_eq (tgt := 36) hx hb dX11_letter_23 (by decide) (by omega) (fun c23 => ?_) (fun c23 => ?_) | refine lv_if_eq (tgt := 36) hx hb dX11_letter_23 (by decide) (fun c23 => ?_) (fun c23 => ?_)
        · skip
          exfalso
          cases c23
        · skip
          refine xaload_n hx hb dX11_letter_26 hl rfl ?_
          refine xget (C := RX11) (T := TX11) (N := 9) hx hb (ci := 11) hts hiX11 hown hG hw (by repeat first | assumption | exact wu_eq _ _ _ | refine wu_ne (by omega) ?_) rfl 0 (by decide) hlnk0 (fun _ h9 => h9) rfl dX11_letter_27 ?_
          refine xVi ⟨hx, hb, hml, hown, hts⟩ (kX5_size l N0 G _ _ (sg S ++ [i]) hP1) (cwV 0 hts gX11_letter_X5_size rfl rfl rfl (by decide +kernel) ⟨Nat.le_of_ble_eq_true rfl, Nat.le_of_ble_eq_true rfl⟩) hG hN hw hS (ci := 5) (by repeat first | assumption | exact wu_eq _ _ _ | refine wu_ne (by omega) ?_) rfl rfl hl.1 rfl (Nat.le_of_ble_eq_true rfl) dX11_letter_30 ⟨Nat.le_of_ble_eq_true rfl, Nat.le_of_ble_eq_true rfl⟩ (fun r30 w30 H locs hp30 hw hS => ?_)
          obtain ⟨rfl, rfl⟩ := hp30
          refine lv_goto (tgt := 38) hx hb dX11_letter_33 (by decide) ?_
          exact xiret hx hb hr hlk hw hS dX11_letter_38 ⟨by rw [letter_in hi h32 hlt]; simp, by rw [letter_in hi h32 hlt]; exact hR.pag hO1 hP1 hZx, hO1.mono (by omega) (by omega)⟩
      · skip
        exfalso
        omega
  · skip
    refine xiload_n hx hb dX11_letter_0 hl rfl ?_
    refine lv_bipush (v := nI 32) hx hb dX11_letter_1 (by decide) ?_
    first | refine xcmp_lt (tgt := 12) hx hb dX11_letter_3 (by decide) (by omega) (by omega) (fun c3 => ?_) (fun c3 => ?_) | refine lv_icmp_lt (tgt := 12) hx hb dX11_letter_3 (by decide) (fun c3 => ?_) (fun c3 => ?_)
    · skip
      exfalso
      omega
    · skip
      refine xiload_n hx hb dX11_letter_6 hl rfl ?_
      refine lv_bipush (v := nI 126) hx hb dX11_letter_7 (by decide) ?_
      first | refine xcmp_le (tgt := 15) hx hb dX11_letter_9 (by decide) (by omega) (by omega) (fun c9 => ?_) (fun c9 => ?_) | refine lv_icmp_le (tgt := 15) hx hb dX11_letter_9 (by decide) (fun c9 => ?_) (fun c9 => ?_)
      · skip
        refine xaload_n hx hb dX11_letter_15 hl rfl ?_
        refine xget (C := RX11) (T := TX11) (N := 9) hx hb (ci := 11) hts hiX11 hown hG hw (by repeat first | assumption | exact wu_eq _ _ _ | refine wu_ne (by omega) ?_) rfl 0 (by decide) hlnk0 (fun _ h9 => h9) rfl dX11_letter_16 ?_
        refine xiload_n hx hb dX11_letter_19 hl rfl ?_
        refine xVi ⟨hx, hb, hml, hown, hts⟩ (kX5_add_full l N0 G _ _ (sg S) hPg i hlt) (cwV 1 hts gX11_letter_X5_add rfl rfl rfl (by decide +kernel) ⟨Nat.le_of_ble_eq_true rfl, Nat.le_of_ble_eq_true rfl⟩) hG hN hw hS (ci := 5) (by repeat first | assumption | exact wu_eq _ _ _ | refine wu_ne (by omega) ?_) rfl rfl hl.1 rfl (Nat.le_of_ble_eq_true rfl) dX11_letter_20 ⟨Nat.le_of_ble_eq_true rfl, Nat.le_of_ble_eq_true rfl⟩ (fun r20 w20 H locs hp20 hw hS => ?_)
        obtain ⟨rfl, rfl⟩ := hp20
        first | refine xifb_eq (tgt := 36) hx hb dX11_letter_23 (by decide) (fun c23 => ?_) (fun c23 => ?_) | refine xif_eq (tgt := 36) hx hb dX11_letter_23 (by decide) (by omega) (fun c23 => ?_) (fun c23 => ?_) | refine lv_if_eq (tgt := 36) hx hb dX11_letter_23 (by decide) (fun c23 => ?_) (fun c23 => ?_)
        · skip
          refine lv_bipush (v := -104) hx hb dX11_letter_36 (by decide) ?_
          exact xiret hx hb hr hlk hw hS dX11_letter_38 ⟨by rw [letter_full hi h32 hlt], by rw [letter_full hi h32 hlt]; exact hR, Out.rf⟩
        · skip
          exfalso
          cases c23
      · skip
        exfalso
        omega
  · skip
    refine xiload_n hx hb dX11_letter_0 hl rfl ?_
    refine lv_bipush (v := nI 32) hx hb dX11_letter_1 (by decide) ?_
    refine lv_icmp_lt (tgt := 12) hx hb dX11_letter_3 (by decide) (fun c3 => ?_) (fun c3 => ?_)
    · skip
      refine lv_bipush (v := -102) hx hb dX11_letter_12 (by decide) ?_
      exact xiret hx hb hr hlk hw hS dX11_letter_14 ⟨by rw [letter_no hx1], by rw [letter_no hx1]; exact hR, Out.rf⟩
    · skip
      refine xiload_n hx hb dX11_letter_6 hl rfl ?_
      refine lv_bipush (v := nI 126) hx hb dX11_letter_7 (by decide) ?_
      refine lv_icmp_le (tgt := 15) hx hb dX11_letter_9 (by decide) (fun c9 => ?_) (fun c9 => ?_)
      · skip
        exfalso
        exact hx1 ⟨c3, c9⟩
      · skip
        refine lv_bipush (v := -102) hx hb dX11_letter_12 (by decide) ?_
        exact xiret hx hb hr hlk hw hS dX11_letter_14 ⟨by rw [letter_no hx1], by rw [letter_no hx1]; exact hR, Out.rf⟩
set_option maxHeartbeats 4000000 in
set_option maxRecDepth 100000 in
theorem kX11_blank (l : Launch) (N0 : Nat) (G : XG) (w : Wd) (x0 Z : Nat) (S : QS) (hR : RLQ G w x0 Z S) (hW : WF S) (hZx : x0 + 52 ≤ Z) : XM l yX11_blank wsX11_blank (rmD 2) N0 G [.ref x0] w vI (fun r w1 => nI (sg S).length = r ∧ RLQ G w1 x0 Z (blankS S) ∧ Out w w1 x0 (x0 + 52)) 0 0 := by
  refine XM.of (cc := cX11_blank) (maxL := 2) (ret := (some .int)) (by decide) rfl (Nat.le_of_ble_eq_true rfl) ?_
  intro p e s m below meth c hx hb hr hlk hin0 hml hown hts hN hw hG hS ls hl
  have hown : s.vm.findClass RX11 = some m.cls := hown
  have hiX11 : ∀ x ∈ u_ws RX11 TX11 9, x ∈ wsX11_blank := by decide +kernel
  have hlnk0 := hts (.fieldLink RX11 10 "LentQuill" "page" "LLentQuill$Page;") (by decide +kernel)
  have hl : lh ls 2 [some (.ref x0), none] := hl
  obtain ⟨hx0, hPg, hTn, hBk, ⟨Bi, hBi, hBie⟩, ⟨hs, Ts, fw, fr, hSr⟩, ⟨dsF, hdF, F, hFr⟩⟩ := id hR
  obtain ⟨h5, hlim⟩ := hTn.five
  have hsn : sn S = (sP S).length := rfl
  have hpgc := hPg.cell
  have htnc := hTn.cell
  have hbkc := hBk.cell
  have hbic := hBi.cell
  have hsrc := hSr.cell
  have hfrc := hFr.1
  obtain ⟨hd6, hh6, hdw⟩ := hBk.six
  have hsd : (sd S).length = (sB S).2.1.length := rfl
  have hsh : (sh S).length = (sB S).2.2.length := rfl
  refine xaload_n hx hb dX11_blank_0 hl rfl ?_
  refine xget (C := RX11) (T := TX11) (N := 9) hx hb (ci := 11) hts hiX11 hown hG hw (by repeat first | assumption | exact wu_eq _ _ _ | refine wu_ne (by omega) ?_) rfl 0 (by decide) hlnk0 (fun _ h9 => h9) rfl dX11_blank_1 ?_
  refine xVi ⟨hx, hb, hml, hown, hts⟩ (kX5_size l N0 G _ _ _ hPg) (cwV 0 hts gX11_blank_X5_size rfl rfl rfl (by decide +kernel) ⟨Nat.le_of_ble_eq_true rfl, Nat.le_of_ble_eq_true rfl⟩) hG hN hw hS (ci := 5) (by repeat first | assumption | exact wu_eq _ _ _ | refine wu_ne (by omega) ?_) rfl rfl hl.1 rfl (Nat.le_of_ble_eq_true rfl) dX11_blank_4 ⟨Nat.le_of_ble_eq_true rfl, Nat.le_of_ble_eq_true rfl⟩ (fun r4 w4 H locs hp4 hw hS => ?_)
  obtain ⟨rfl, rfl⟩ := hp4
  refine xistore_n hx hb dX11_blank_7 hl (by decide) rfl (fun ls hl => ?_)
  refine xaload_n hx hb dX11_blank_8 hl rfl ?_
  refine xget (C := RX11) (T := TX11) (N := 9) hx hb (ci := 11) hts hiX11 hown hG hw (by repeat first | assumption | exact wu_eq _ _ _ | refine wu_ne (by omega) ?_) rfl 0 (by decide) hlnk0 (fun _ h9 => h9) rfl dX11_blank_9 ?_
  refine xVv ⟨hx, hb, hml, hown, hts⟩ (kX5_clear l N0 G _ _ _ hPg) (cwV 0 hts gX11_blank_X5_clear rfl rfl rfl (by decide +kernel) ⟨Nat.le_of_ble_eq_true rfl, Nat.le_of_ble_eq_true rfl⟩) hG hN hw hS (ci := 5) (by repeat first | assumption | exact wu_eq _ _ _ | refine wu_ne (by omega) ?_) rfl rfl hl.1 rfl (Nat.le_of_ble_eq_true rfl) dX11_blank_12 ⟨Nat.le_of_ble_eq_true rfl, Nat.le_of_ble_eq_true rfl⟩ (fun r12 w12 H locs hp12 hw hS => ?_)
  obtain ⟨hP1, hO1⟩ := hp12
  refine xiload_n hx hb dX11_blank_15 hl rfl ?_
  exact xiret hx hb hr hlk hw hS dX11_blank_16 ⟨rfl, hR.pag hO1 hP1 hZx, hO1.mono (by omega) (by omega)⟩
set_option maxHeartbeats 4000000 in
set_option maxRecDepth 100000 in
theorem kX11_fault (l : Launch) (N0 : Nat) (G : XG) (w : Wd) (x0 Z : Nat) (S : QS) (hR : RLQ G w x0 Z S) (hW : WF S) (hZx : x0 + 52 ≤ Z) : XM l yX11_fault wsX11_fault (rmD 7) N0 G [.ref x0] w vI (fun r w1 => nI (ff (sg S) (sg S).length 0) = r ∧ w = w1) 0 0 := by
  refine XM.of (cc := cX11_fault) (maxL := 1) (ret := (some .int)) (by decide) rfl (Nat.le_of_ble_eq_true rfl) ?_
  intro p e s m below meth c hx hb hr hlk hin0 hml hown hts hN hw hG hS ls hl
  have hown : s.vm.findClass RX11 = some m.cls := hown
  have hiX11 : ∀ x ∈ u_ws RX11 TX11 9, x ∈ wsX11_fault := by decide +kernel
  have hlnk0 := hts (.fieldLink RX11 10 "LentQuill" "page" "LLentQuill$Page;") (by decide +kernel)
  have hl : lh ls 1 [some (.ref x0)] := hl
  obtain ⟨hx0, hPg, hTn, hBk, ⟨Bi, hBi, hBie⟩, ⟨hs, Ts, fw, fr, hSr⟩, ⟨dsF, hdF, F, hFr⟩⟩ := id hR
  obtain ⟨h5, hlim⟩ := hTn.five
  have hsn : sn S = (sP S).length := rfl
  have hpgc := hPg.cell
  have htnc := hTn.cell
  have hbkc := hBk.cell
  have hbic := hBi.cell
  have hsrc := hSr.cell
  have hfrc := hFr.1
  obtain ⟨hd6, hh6, hdw⟩ := hBk.six
  have hsd : (sd S).length = (sB S).2.1.length := rfl
  have hsh : (sh S).length = (sB S).2.2.length := rfl
  refine xaload_n hx hb dX11_fault_0 hl rfl ?_
  refine xget (C := RX11) (T := TX11) (N := 9) hx hb (ci := 11) hts hiX11 hown hG hw (by repeat first | assumption | exact wu_eq _ _ _ | refine wu_ne (by omega) ?_) rfl 0 (by decide) hlnk0 (fun _ h9 => h9) rfl dX11_fault_1 ?_
  refine xVi ⟨hx, hb, hml, hown, hts⟩ (kX5_firstFault l N0 G _ _ _ hPg) (cwV 0 hts gX11_fault_X5_firstFault rfl rfl rfl (by decide +kernel) ⟨Nat.le_of_ble_eq_true rfl, Nat.le_of_ble_eq_true rfl⟩) hG hN hw hS (ci := 5) (by repeat first | assumption | exact wu_eq _ _ _ | refine wu_ne (by omega) ?_) rfl rfl hl.1 rfl (Nat.le_of_ble_eq_true rfl) dX11_fault_4 ⟨Nat.le_of_ble_eq_true rfl, Nat.le_of_ble_eq_true rfl⟩ (fun r4 w4 H locs hp4 hw hS => ?_)
  obtain ⟨rfl, rfl⟩ := hp4
  exact xiret hx hb hr hlk hw hS dX11_fault_7 ⟨rfl, rfl⟩
set_option maxHeartbeats 4000000 in
set_option maxRecDepth 100000 in
theorem dspX11_about_69 {p : Program} {l : Launch} {e : Env} {R : Room} {s : State} {m : MethodId} {args : Array Value} {below : List Frame} {meth : Method} {c : Code} {H : Heap} {locs : List Loc} {cells slots : Nat} {Q : State → Prop} {ls : Array Slot} {rest : List Value} {N0 : Nat} {G : XG} {w : Wd} {H0 : Heap} (hx : p.tables.exec = Jvm.exec) (hb : c.code = cX11_about) (hml : c.maxLocals = 5) (hown : s.vm.findClass RX11 = some m.cls) (hts : ∀ x ∈ wsX11_about, x.before args s = true) (hG : GK G s) (hN : N0 ≤ H0.size ∧ SK N0 G s H0) (hw : PW N0 G w H) (hS : va_S (fun q => N0 ≤ q) H0 H locs) (hsz : ls.size = 5) {q k v : Nat} (hk : k ≤ 4) (hq : w q = some (eO (pci k) [.int (nI v)])) (hW : (rest.map fun v => v.category).sum ≤ 8) (hR : 4 ≤ R.frames ∧ 120 ≤ R.locals) (hf : cells ≤ R.cells ∧ slots ≤ R.slots) (kk : ∀ (H : Heap) (locs : List Loc), PW N0 G w H → va_S (fun q => N0 ≤ q) H0 H locs → W p l e R s m args below meth c H locs cells slots Q (F0 m 72 ls (.int (nI k) :: rest))) : W p l e R s m args below meth c H locs cells slots Q (F0 m 69 ls (.ref q :: rest)) := by
  rcases (show k = 0 ∨ k = 1 ∨ k = 2 ∨ k = 3 ∨ k = 4 by omega) with rfl | rfl | rfl | rfl | rfl
  · refine xVi ⟨hx, hb, hml, hown, hts⟩ (kX7_kind l N0 G w q) (cwV 0 hts gX11_about_X7_kind rfl rfl rfl (by decide +kernel) ⟨by simp only [rmD]; omega, by simp only [rmD]; omega⟩) hG hN hw hS (ci := 7) hq rfl rfl hsz rfl hW dX11_about_69 hf (fun r w1 H locs hp hw hS => ?_)
    obtain ⟨rfl, rfl⟩ := hp
    exact kk _ _ hw hS
  · refine xUi ⟨hx, hb, hml, hown, hts⟩ (kX1_kind l N0 G w q) (va_cwO 0 hts gX11_about_X1_kind_u87X1 rfl rfl rfl (b0 := cX7_kind) (m0 := 1) (r0 := some .int) (by decide +kernel) (by decide +kernel) ⟨by simp only [rmD]; omega, by simp only [rmD]; omega⟩) hG hN hw hS (ci := 1) hq rfl rfl hsz rfl hW dX11_about_69 hf (fun r w1 H locs hp hw hS => ?_)
    obtain ⟨rfl, rfl⟩ := hp
    exact kk _ _ hw hS
  · refine xUi ⟨hx, hb, hml, hown, hts⟩ (kX9_kind l N0 G w q) (va_cwO 0 hts gX11_about_X9_kind_u87X9 rfl rfl rfl (b0 := cX7_kind) (m0 := 1) (r0 := some .int) (by decide +kernel) (by decide +kernel) ⟨by simp only [rmD]; omega, by simp only [rmD]; omega⟩) hG hN hw hS (ci := 9) hq rfl rfl hsz rfl hW dX11_about_69 hf (fun r w1 H locs hp hw hS => ?_)
    obtain ⟨rfl, rfl⟩ := hp
    exact kk _ _ hw hS
  · refine xUi ⟨hx, hb, hml, hown, hts⟩ (kX3_kind l N0 G w q) (va_cwO 0 hts gX11_about_X3_kind_u87X3 rfl rfl rfl (b0 := cX7_kind) (m0 := 1) (r0 := some .int) (by decide +kernel) (by decide +kernel) ⟨by simp only [rmD]; omega, by simp only [rmD]; omega⟩) hG hN hw hS (ci := 3) hq rfl rfl hsz rfl hW dX11_about_69 hf (fun r w1 H locs hp hw hS => ?_)
    obtain ⟨rfl, rfl⟩ := hp
    exact kk _ _ hw hS
  · refine xUi ⟨hx, hb, hml, hown, hts⟩ (kX0_kind l N0 G w q) (va_cwO 0 hts gX11_about_X0_kind_u87X0 rfl rfl rfl (b0 := cX7_kind) (m0 := 1) (r0 := some .int) (by decide +kernel) (by decide +kernel) ⟨by simp only [rmD]; omega, by simp only [rmD]; omega⟩) hG hN hw hS (ci := 0) hq rfl rfl hsz rfl hW dX11_about_69 hf (fun r w1 H locs hp hw hS => ?_)
    obtain ⟨rfl, rfl⟩ := hp
    exact kk _ _ hw hS
set_option maxHeartbeats 4000000 in
set_option maxRecDepth 100000 in
theorem dspX11_about_74 {p : Program} {l : Launch} {e : Env} {R : Room} {s : State} {m : MethodId} {args : Array Value} {below : List Frame} {meth : Method} {c : Code} {H : Heap} {locs : List Loc} {cells slots : Nat} {Q : State → Prop} {ls : Array Slot} {rest : List Value} {N0 : Nat} {G : XG} {w : Wd} {H0 : Heap} (hx : p.tables.exec = Jvm.exec) (hb : c.code = cX11_about) (hml : c.maxLocals = 5) (hown : s.vm.findClass RX11 = some m.cls) (hts : ∀ x ∈ wsX11_about, x.before args s = true) (hG : GK G s) (hN : N0 ≤ H0.size ∧ SK N0 G s H0) (hw : PW N0 G w H) (hS : va_S (fun q => N0 ≤ q) H0 H locs) (hsz : ls.size = 5) {q k v : Nat} (hk : k ≤ 4) (hq : w q = some (eO (pci k) [.int (nI v)])) (hW : (rest.map fun v => v.category).sum ≤ 8) (hR : 4 ≤ R.frames ∧ 120 ≤ R.locals) (hf : cells ≤ R.cells ∧ slots ≤ R.slots) (kk : ∀ (H : Heap) (locs : List Loc), PW N0 G w H → va_S (fun q => N0 ≤ q) H0 H locs → W p l e R s m args below meth c H locs cells slots Q (F0 m 77 ls (.int (nI (if k = 4 then 2 * v else v)) :: rest))) : W p l e R s m args below meth c H locs cells slots Q (F0 m 74 ls (.ref q :: rest)) := by
  rcases (show k = 0 ∨ k = 1 ∨ k = 2 ∨ k = 3 ∨ k = 4 by omega) with rfl | rfl | rfl | rfl | rfl
  · refine xVi ⟨hx, hb, hml, hown, hts⟩ (kX7_worth_7 l N0 G w q _ hq) (cwV 0 hts gX11_about_X7_worth rfl rfl rfl (by decide +kernel) ⟨by simp only [rmD]; omega, by simp only [rmD]; omega⟩) hG hN hw hS (ci := 7) hq rfl rfl hsz rfl hW dX11_about_74 hf (fun r w1 H locs hp hw hS => ?_)
    obtain ⟨rfl, rfl⟩ := hp
    exact kk _ _ hw hS
  · refine xUi ⟨hx, hb, hml, hown, hts⟩ (kX7_worth_1 l N0 G w q _ hq) (va_cwU 0 hts gX11_about_X7_worth_u92X1 rfl rfl rfl rfl (by decide +kernel) ⟨by simp only [rmD]; omega, by simp only [rmD]; omega⟩) hG hN hw hS (ci := 1) hq rfl rfl hsz rfl hW dX11_about_74 hf (fun r w1 H locs hp hw hS => ?_)
    obtain ⟨rfl, rfl⟩ := hp
    exact kk _ _ hw hS
  · refine xUi ⟨hx, hb, hml, hown, hts⟩ (kX7_worth_9 l N0 G w q _ hq) (va_cwU 0 hts gX11_about_X7_worth_u92X9 rfl rfl rfl rfl (by decide +kernel) ⟨by simp only [rmD]; omega, by simp only [rmD]; omega⟩) hG hN hw hS (ci := 9) hq rfl rfl hsz rfl hW dX11_about_74 hf (fun r w1 H locs hp hw hS => ?_)
    obtain ⟨rfl, rfl⟩ := hp
    exact kk _ _ hw hS
  · refine xUi ⟨hx, hb, hml, hown, hts⟩ (kX7_worth_3 l N0 G w q _ hq) (va_cwU 0 hts gX11_about_X7_worth_u92X3 rfl rfl rfl rfl (by decide +kernel) ⟨by simp only [rmD]; omega, by simp only [rmD]; omega⟩) hG hN hw hS (ci := 3) hq rfl rfl hsz rfl hW dX11_about_74 hf (fun r w1 H locs hp hw hS => ?_)
    obtain ⟨rfl, rfl⟩ := hp
    exact kk _ _ hw hS
  · refine xUi ⟨hx, hb, hml, hown, hts⟩ (kX0_worth l N0 G w q _ hq) (va_cwO 0 hts gX11_about_X0_worth_u92X0 rfl rfl rfl (b0 := cX7_worth) (m0 := 1) (r0 := some .int) (by decide +kernel) (by decide +kernel) ⟨by simp only [rmD]; omega, by simp only [rmD]; omega⟩) hG hN hw hS (ci := 0) hq rfl rfl hsz rfl hW dX11_about_74 hf (fun r w1 H locs hp hw hS => ?_)
    obtain ⟨rfl, rfl⟩ := hp
    exact kk _ _ hw hS
set_option maxHeartbeats 4000000 in
set_option maxRecDepth 100000 in
theorem kX11_about (l : Launch) (N0 : Nat) (G : XG) (w : Wd) (x0 Z : Nat) (S : QS) (hR : RLQ G w x0 Z S) (hW : WF S) (hZx : x0 + 52 ≤ Z) (x y : Int32) : XM l yX11_about wsX11_about (rmD 5) N0 G [.ref x0, .int x, .int y] w vI (fun r w1 => v_about S x y = r ∧ w = w1) 0 0 := by
  refine XM.of (cc := cX11_about) (maxL := 5) (ret := (some .int)) (by decide) rfl (Nat.le_of_ble_eq_true rfl) ?_
  intro p e s m below meth c hx hb hr hlk hin0 hml hown hts hN hw hG hS ls hl
  have hown : s.vm.findClass RX11 = some m.cls := hown
  have hiX11 : ∀ x ∈ u_ws RX11 TX11 9, x ∈ wsX11_about := by decide +kernel
  have hlnk0 := hts (.fieldLink RX11 19 "LentQuill" "town" "LLentQuill$Town;") (by decide +kernel)
  have hlnk1 := hts (.fieldLink RX11 26 "LentQuill" "books" "LLentQuill$Books;") (by decide +kernel)
  have hl : lh ls 5 [some (.ref x0), some (.int x), some (.int y), none, none] := hl
  obtain ⟨hx0, hPg, hTn, hBk, ⟨Bi, hBi, hBie⟩, ⟨hs, Ts, fw, fr, hSr⟩, ⟨dsF, hdF, F, hFr⟩⟩ := id hR
  obtain ⟨h5, hlim⟩ := hTn.five
  have hsn : sn S = (sP S).length := rfl
  have hpgc := hPg.cell
  have htnc := hTn.cell
  have hbkc := hBk.cell
  have hbic := hBi.cell
  have hsrc := hSr.cell
  have hfrc := hFr.1
  obtain ⟨hd6, hh6, hdw⟩ := hBk.six
  have hsd : (sd S).length = (sB S).2.1.length := rfl
  have hsh : (sh S).length = (sB S).2.2.length := rfl
  rcases inR_or x (sn S) with ⟨i, hi, hi31, rfl⟩ | hx1
  · skip
    have hpi := hBk.pen (i := i) (by omega)
    have hpic := hpi.cell
    have hali : ∀ x ∈ (sB S).1 i, x < (sP S).length := hW.1.1 i hi
    obtain ⟨hl0, hl41⟩ := hpi.len
    refine xaload_n hx hb dX11_about_0 hl rfl ?_
    refine xget (C := RX11) (T := TX11) (N := 9) hx hb (ci := 11) hts hiX11 hown hG hw (by repeat first | assumption | exact wu_eq _ _ _ | refine wu_ne (by omega) ?_) rfl 1 (by decide) hlnk0 (fun _ h9 => h9) rfl dX11_about_1 ?_
    refine xiload_n hx hb dX11_about_4 hl rfl ?_
    refine xVr ⟨hx, hb, hml, hown, hts⟩ (kX10_one l N0 G _ _ Z _ _ hTn i hi) (cwV 1 hts gX11_about_X10_one rfl rfl rfl (by decide +kernel) ⟨Nat.le_of_ble_eq_true rfl, Nat.le_of_ble_eq_true rfl⟩) hG hN hw hS (ci := 10) (by repeat first | assumption | exact wu_eq _ _ _ | refine wu_ne (by omega) ?_) rfl rfl hl.1 rfl (Nat.le_of_ble_eq_true rfl) dX11_about_5 ⟨Nat.le_of_ble_eq_true rfl, Nat.le_of_ble_eq_true rfl⟩ (fun r5 w5 H locs hp5 hw hS => ?_)
    obtain ⟨⟨q, rfl, hqZ, hq⟩, rfl⟩ := hp5
    refine xrf rfl ?_
    first | refine xastore_n hx hb dX11_about_8 hl (by decide) rfl (fun ls hl => ?_) | refine xastore_nN hx hb dX11_about_8 hl (by decide) rfl (fun ls hl => ?_)
    refine xaload_n hx hb dX11_about_9 hl rfl ?_
    refine xiload_n hx hb dX11_about_10 hl rfl ?_
    refine xVr ⟨hx, hb, hml, hown, hts⟩ (kX11_penOf l N0 G _ _ Z S hR hW hZx i hi) (cwV 1 hts gX11_about_X11_penOf rfl rfl rfl (by decide +kernel) ⟨Nat.le_of_ble_eq_true rfl, Nat.le_of_ble_eq_true rfl⟩) hG hN hw hS (ci := 11) (by repeat first | assumption | exact wu_eq _ _ _ | refine wu_ne (by omega) ?_) rfl rfl hl.1 rfl (Nat.le_of_ble_eq_true rfl) dX11_about_11 ⟨Nat.le_of_ble_eq_true rfl, Nat.le_of_ble_eq_true rfl⟩ (fun r11 w11 H locs hp11 hw hS => ?_)
    obtain ⟨rfl, rfl⟩ := hp11
    refine xrf rfl ?_
    refine xastore hx hb dX11_about_14 hl (by decide) rfl (fun ls hl => ?_)
    refine xaload_n hx hb dX11_about_16 hl rfl ?_
    refine lv_ifnull hx hb dX11_about_17 ?_
    refine xaload hx hb dX11_about_20 hl rfl ?_
    refine lv_ifnonnull (tgt := 28) hx hb dX11_about_22 (by decide) ?_
    refine xiload_n hx hb dX11_about_28 hl rfl ?_
    rcases sw6 y with rfl | rfl | rfl | rfl | rfl | rfl | hy1
    · skip
      refine lv_tableIn (off := 39) (tgt := 68) hx hb dX11_about_29 (by decide) (by decide) (by decide) (by decide) ?_
      refine xaload_n hx hb dX11_about_68 hl rfl ?_
      refine dspX11_about_69 hx hb hml hown hts hG hN hw hS hl.1 ((hTn.kd hi).1) hq (Nat.le_of_ble_eq_true rfl) ⟨Nat.le_of_ble_eq_true rfl, Nat.le_of_ble_eq_true rfl⟩ ⟨Nat.le_of_ble_eq_true rfl, Nat.le_of_ble_eq_true rfl⟩ (fun H locs hw hS => ?_)
      exact xiret hx hb hr hlk hw hS dX11_about_72 ⟨by rw [v_about, onR_in hi hi31, onR_in (by omega) (by omega)]; rfl, rfl⟩
    · skip
      refine lv_tableIn (off := 44) (tgt := 73) hx hb dX11_about_29 (by decide) (by decide) (by decide) (by decide) ?_
      refine xaload_n hx hb dX11_about_73 hl rfl ?_
      refine dspX11_about_74 hx hb hml hown hts hG hN hw hS hl.1 ((hTn.kd hi).1) hq (Nat.le_of_ble_eq_true rfl) ⟨Nat.le_of_ble_eq_true rfl, Nat.le_of_ble_eq_true rfl⟩ ⟨Nat.le_of_ble_eq_true rfl, Nat.le_of_ble_eq_true rfl⟩ (fun H locs hw hS => ?_)
      exact xiret hx hb hr hlk hw hS dX11_about_77 ⟨by rw [v_about, onR_in hi hi31, onR_in (by omega) (by omega)]; rfl, rfl⟩
    · skip
      refine lv_tableIn (off := 49) (tgt := 78) hx hb dX11_about_29 (by decide) (by decide) (by decide) (by decide) ?_
      refine xaload hx hb dX11_about_78 hl rfl ?_
      refine xVi ⟨hx, hb, hml, hown, hts⟩ (kX6_holder l N0 G _ _ _ hpi) (cwV 0 hts gX11_about_X6_holder rfl rfl rfl (by decide +kernel) ⟨Nat.le_of_ble_eq_true rfl, Nat.le_of_ble_eq_true rfl⟩) hG hN hw hS (ci := 6) (by repeat first | assumption | exact wu_eq _ _ _ | refine wu_ne (by omega) ?_) rfl rfl hl.1 rfl (Nat.le_of_ble_eq_true rfl) dX11_about_80 ⟨Nat.le_of_ble_eq_true rfl, Nat.le_of_ble_eq_true rfl⟩ (fun r80 w80 H locs hp80 hw hS => ?_)
      obtain ⟨rfl, rfl⟩ := hp80
      exact xiret hx hb hr hlk hw hS dX11_about_83 ⟨by rw [v_about, onR_in hi hi31, onR_in (by omega) (by omega)]; rfl, rfl⟩
    · skip
      refine lv_tableIn (off := 55) (tgt := 84) hx hb dX11_about_29 (by decide) (by decide) (by decide) (by decide) ?_
      refine xaload_n hx hb dX11_about_84 hl rfl ?_
      refine xget (C := RX11) (T := TX11) (N := 9) hx hb (ci := 11) hts hiX11 hown hG hw (by repeat first | assumption | exact wu_eq _ _ _ | refine wu_ne (by omega) ?_) rfl 1 (by decide) hlnk0 (fun _ h9 => h9) rfl dX11_about_85 ?_
      refine xaload hx hb dX11_about_88 hl rfl ?_
      refine xVi ⟨hx, hb, hml, hown, hts⟩ (kX10_boundBy l N0 G _ _ Z _ _ hTn _ _ hpi hali) (cwV 1 hts gX11_about_X10_boundBy rfl rfl rfl (by decide +kernel) ⟨Nat.le_of_ble_eq_true rfl, Nat.le_of_ble_eq_true rfl⟩) hG hN hw hS (ci := 10) (by repeat first | assumption | exact wu_eq _ _ _ | refine wu_ne (by omega) ?_) rfl rfl hl.1 rfl (Nat.le_of_ble_eq_true rfl) dX11_about_90 ⟨Nat.le_of_ble_eq_true rfl, Nat.le_of_ble_eq_true rfl⟩ (fun r90 w90 H locs hp90 hw hS => ?_)
      obtain ⟨rfl, rfl⟩ := hp90
      exact xiret hx hb hr hlk hw hS dX11_about_93 ⟨by rw [v_about, onR_in hi hi31, onR_in (by omega) (by omega)]; rfl, rfl⟩
    · skip
      refine lv_tableIn (off := 65) (tgt := 94) hx hb dX11_about_29 (by decide) (by decide) (by decide) (by decide) ?_
      refine xaload_n hx hb dX11_about_94 hl rfl ?_
      refine xget (C := RX11) (T := TX11) (N := 9) hx hb (ci := 11) hts hiX11 hown hG hw (by repeat first | assumption | exact wu_eq _ _ _ | refine wu_ne (by omega) ?_) rfl 2 (by decide) hlnk1 (fun _ h9 => h9) rfl dX11_about_95 ?_
      refine xiload_n hx hb dX11_about_98 hl rfl ?_
      refine xVi ⟨hx, hb, hml, hown, hts⟩ (kX2_pensWith l N0 G _ _ _ _ _ hBk i (by omega) (hsm5 hW (by omega) hBk)) (cwV 1 hts gX11_about_X2_pensWith rfl rfl rfl (by decide +kernel) ⟨Nat.le_of_ble_eq_true rfl, Nat.le_of_ble_eq_true rfl⟩) hG hN hw hS (ci := 2) (by repeat first | assumption | exact wu_eq _ _ _ | refine wu_ne (by omega) ?_) rfl rfl hl.1 rfl (Nat.le_of_ble_eq_true rfl) dX11_about_99 ⟨Nat.le_of_ble_eq_true rfl, Nat.le_of_ble_eq_true rfl⟩ (fun r99 w99 H locs hp99 hw hS => ?_)
      obtain ⟨rfl, rfl⟩ := hp99
      exact xiret hx hb hr hlk hw hS dX11_about_102 ⟨by rw [v_about, onR_in hi hi31, onR_in (by omega) (by omega), pens5 hW (by omega) hi]; rfl, rfl⟩
    · skip
      refine lv_tableIn (off := 74) (tgt := 103) hx hb dX11_about_29 (by decide) (by decide) (by decide) (by decide) ?_
      refine xaload_n hx hb dX11_about_103 hl rfl ?_
      refine xget (C := RX11) (T := TX11) (N := 9) hx hb (ci := 11) hts hiX11 hown hG hw (by repeat first | assumption | exact wu_eq _ _ _ | refine wu_ne (by omega) ?_) rfl 2 (by decide) hlnk1 (fun _ h9 => h9) rfl dX11_about_104 ?_
      refine xiload_n hx hb dX11_about_107 hl rfl ?_
      refine xVi ⟨hx, hb, hml, hown, hts⟩ (kX2_deedsBinding l N0 G _ _ _ _ _ hBk i (by omega)) (cwV 1 hts gX11_about_X2_deedsBinding rfl rfl rfl (by decide +kernel) ⟨Nat.le_of_ble_eq_true rfl, Nat.le_of_ble_eq_true rfl⟩) hG hN hw hS (ci := 2) (by repeat first | assumption | exact wu_eq _ _ _ | refine wu_ne (by omega) ?_) rfl rfl hl.1 rfl (Nat.le_of_ble_eq_true rfl) dX11_about_108 ⟨Nat.le_of_ble_eq_true rfl, Nat.le_of_ble_eq_true rfl⟩ (fun r108 w108 H locs hp108 hw hS => ?_)
      obtain ⟨rfl, rfl⟩ := hp108
      exact xiret hx hb hr hlk hw hS dX11_about_111 ⟨by rw [v_about, onR_in hi hi31, onR_in (by omega) (by omega)]; rfl, rfl⟩
    · skip
      refine lv_tableOut (tgt := 112) hx hb dX11_about_29 (tab_out hy1 (by decide)) (by decide) ?_
      refine lv_bipush (v := -102) hx hb dX11_about_112 (by decide) ?_
      exact xiret hx hb hr hlk hw hS dX11_about_114 ⟨by rw [v_about, onR_in hi hi31, onR_out hy1], rfl⟩
  · skip
    refine xaload_n hx hb dX11_about_0 hl rfl ?_
    refine xget (C := RX11) (T := TX11) (N := 9) hx hb (ci := 11) hts hiX11 hown hG hw (by repeat first | assumption | exact wu_eq _ _ _ | refine wu_ne (by omega) ?_) rfl 1 (by decide) hlnk0 (fun _ h9 => h9) rfl dX11_about_1 ?_
    refine xiload_n hx hb dX11_about_4 hl rfl ?_
    refine xVr ⟨hx, hb, hml, hown, hts⟩ (kX10_one_out l N0 G _ _ Z _ _ hTn _ hx1) (cwV 1 hts gX11_about_X10_one rfl rfl rfl (by decide +kernel) ⟨Nat.le_of_ble_eq_true rfl, Nat.le_of_ble_eq_true rfl⟩) hG hN hw hS (ci := 10) (by repeat first | assumption | exact wu_eq _ _ _ | refine wu_ne (by omega) ?_) rfl rfl hl.1 rfl (Nat.le_of_ble_eq_true rfl) dX11_about_5 ⟨Nat.le_of_ble_eq_true rfl, Nat.le_of_ble_eq_true rfl⟩ (fun r5 w5 H locs hp5 hw hS => ?_)
    obtain ⟨rfl, rfl⟩ := hp5
    refine xrn rfl ?_
    first | refine xastore_n hx hb dX11_about_8 hl (by decide) rfl (fun ls hl => ?_) | refine xastore_nN hx hb dX11_about_8 hl (by decide) rfl (fun ls hl => ?_)
    refine xaload_n hx hb dX11_about_9 hl rfl ?_
    refine xiload_n hx hb dX11_about_10 hl rfl ?_
    refine xVr ⟨hx, hb, hml, hown, hts⟩ (kX11_penOf_out l N0 G _ _ Z S hR hW hZx _ hx1) (cwV 1 hts gX11_about_X11_penOf rfl rfl rfl (by decide +kernel) ⟨Nat.le_of_ble_eq_true rfl, Nat.le_of_ble_eq_true rfl⟩) hG hN hw hS (ci := 11) (by repeat first | assumption | exact wu_eq _ _ _ | refine wu_ne (by omega) ?_) rfl rfl hl.1 rfl (Nat.le_of_ble_eq_true rfl) dX11_about_11 ⟨Nat.le_of_ble_eq_true rfl, Nat.le_of_ble_eq_true rfl⟩ (fun r11 w11 H locs hp11 hw hS => ?_)
    obtain ⟨rfl, rfl⟩ := hp11
    refine xrn rfl ?_
    refine xastoreN hx hb dX11_about_14 hl (by decide) rfl (fun ls hl => ?_)
    refine xaload_nN hx hb dX11_about_16 hl rfl ?_
    refine lv_ifnullN (tgt := 25) hx hb dX11_about_17 (by decide) ?_
    refine lv_bipush (v := -101) hx hb dX11_about_25 (by decide) ?_
    exact xiret hx hb hr hlk hw hS dX11_about_27 ⟨by rw [v_about, onR_out hx1], rfl⟩
set_option maxHeartbeats 4000000 in
set_option maxRecDepth 100000 in
theorem insX11_as_55 {p : Program} {l : Launch} {e : Env} {R : Room} {s : State} {m : MethodId} {args : Array Value} {below : List Frame} {meth : Method} {c : Code} {H : Heap} {locs : List Loc} {cells slots : Nat} {Q : State → Prop} {ls : Array Slot} {rest : List Value} {N0 : Nat} {G : XG} {w : Wd} (hx : p.tables.exec = Jvm.exec) (hb : c.code = cX11_as) (hown : s.vm.findClass RX11 = some m.cls) (hts : ∀ x ∈ wsX11_as, x.before args s = true) (hG : GK G s) (hw : PW N0 G w H) {q k v : Nat} (hk : k ≤ 4) (hq : w q = some (eO (pci k) [.int (nI v)])) (kk : W p l e R s m args below meth c H locs cells slots Q (F0 m 58 ls (.int (bI (decide (k = 1 ∨ k = 4))) :: rest))) : W p l e R s m args below meth c H locs cells slots Q (F0 m 55 ls (.ref q :: rest)) := by
  have hlk := hts (.classLink RX11 111 RX1) (by decide +kernel)
  rcases (show k = 0 ∨ k = 1 ∨ k = 2 ∨ k = 3 ∨ k = 4 by omega) with rfl | rfl | rfl | rfl | rfl
  · have hrc := va_recv hG.1 (hw.one hq) (show vwCl[pci 0]? = some (RX7, TX7, 1) from rfl) (q0 := 0) rfl
    exact va_instNo hx hb hown hlk (hG.2.2.1.2.2.1 ("LentQuill$Person", "LentQuill$Bishop") (by decide +kernel)) hrc dX11_as_55 kk
  · have hrc := va_recv hG.1 (hw.one hq) (show vwCl[pci 1]? = some (RX1, TX1, 1) from rfl) (q0 := 0) rfl
    exact va_instS hx hb hown hlk (hG.1.1 1 _ rfl).2 hrc dX11_as_55 kk
  · have hrc := va_recv hG.1 (hw.one hq) (show vwCl[pci 2]? = some (RX9, TX9, 1) from rfl) (q0 := 0) rfl
    exact va_instNo hx hb hown hlk (hG.2.2.1.2.2.1 ("LentQuill$Thief", "LentQuill$Bishop") (by decide +kernel)) hrc dX11_as_55 kk
  · have hrc := va_recv hG.1 (hw.one hq) (show vwCl[pci 3]? = some (RX3, TX3, 1) from rfl) (q0 := 0) rfl
    exact va_instNo hx hb hown hlk (hG.2.2.1.2.2.1 ("LentQuill$Boy", "LentQuill$Bishop") (by decide +kernel)) hrc dX11_as_55 kk
  · have hrc := va_recv hG.1 (hw.one hq) (show vwCl[pci 4]? = some (RX0, TX0, 1) from rfl) (q0 := 0) rfl
    exact va_instY hx hb hown hlk hG.2.2.1.2.2.2.1 hrc dX11_as_55 kk
set_option maxHeartbeats 4000000 in
set_option maxRecDepth 100000 in
theorem insX11_as_68 {p : Program} {l : Launch} {e : Env} {R : Room} {s : State} {m : MethodId} {args : Array Value} {below : List Frame} {meth : Method} {c : Code} {H : Heap} {locs : List Loc} {cells slots : Nat} {Q : State → Prop} {ls : Array Slot} {rest : List Value} {N0 : Nat} {G : XG} {w : Wd} (hx : p.tables.exec = Jvm.exec) (hb : c.code = cX11_as) (hown : s.vm.findClass RX11 = some m.cls) (hts : ∀ x ∈ wsX11_as, x.before args s = true) (hG : GK G s) (hw : PW N0 G w H) {q k v : Nat} (hk : k ≤ 4) (hq : w q = some (eO (pci k) [.int (nI v)])) (kk : W p l e R s m args below meth c H locs cells slots Q (F0 m 71 ls (.int (bI (decide (k = 2))) :: rest))) : W p l e R s m args below meth c H locs cells slots Q (F0 m 68 ls (.ref q :: rest)) := by
  have hlk := hts (.classLink RX11 113 RX9) (by decide +kernel)
  rcases (show k = 0 ∨ k = 1 ∨ k = 2 ∨ k = 3 ∨ k = 4 by omega) with rfl | rfl | rfl | rfl | rfl
  · have hrc := va_recv hG.1 (hw.one hq) (show vwCl[pci 0]? = some (RX7, TX7, 1) from rfl) (q0 := 0) rfl
    exact va_instNo hx hb hown hlk (hG.2.2.1.2.2.1 ("LentQuill$Person", "LentQuill$Thief") (by decide +kernel)) hrc dX11_as_68 kk
  · have hrc := va_recv hG.1 (hw.one hq) (show vwCl[pci 1]? = some (RX1, TX1, 1) from rfl) (q0 := 0) rfl
    exact va_instNo hx hb hown hlk (hG.2.2.1.2.2.1 ("LentQuill$Bishop", "LentQuill$Thief") (by decide +kernel)) hrc dX11_as_68 kk
  · have hrc := va_recv hG.1 (hw.one hq) (show vwCl[pci 2]? = some (RX9, TX9, 1) from rfl) (q0 := 0) rfl
    exact va_instS hx hb hown hlk (hG.1.1 9 _ rfl).2 hrc dX11_as_68 kk
  · have hrc := va_recv hG.1 (hw.one hq) (show vwCl[pci 3]? = some (RX3, TX3, 1) from rfl) (q0 := 0) rfl
    exact va_instNo hx hb hown hlk (hG.2.2.1.2.2.1 ("LentQuill$Boy", "LentQuill$Thief") (by decide +kernel)) hrc dX11_as_68 kk
  · have hrc := va_recv hG.1 (hw.one hq) (show vwCl[pci 4]? = some (RX0, TX0, 1) from rfl) (q0 := 0) rfl
    exact va_instNo hx hb hown hlk (hG.2.2.1.2.2.1 ("LentQuill$Abbot", "LentQuill$Thief") (by decide +kernel)) hrc dX11_as_68 kk
set_option maxHeartbeats 4000000 in
set_option maxRecDepth 100000 in
theorem insX11_as_81 {p : Program} {l : Launch} {e : Env} {R : Room} {s : State} {m : MethodId} {args : Array Value} {below : List Frame} {meth : Method} {c : Code} {H : Heap} {locs : List Loc} {cells slots : Nat} {Q : State → Prop} {ls : Array Slot} {rest : List Value} {N0 : Nat} {G : XG} {w : Wd} (hx : p.tables.exec = Jvm.exec) (hb : c.code = cX11_as) (hown : s.vm.findClass RX11 = some m.cls) (hts : ∀ x ∈ wsX11_as, x.before args s = true) (hG : GK G s) (hw : PW N0 G w H) {q k v : Nat} (hk : k ≤ 4) (hq : w q = some (eO (pci k) [.int (nI v)])) (kk : W p l e R s m args below meth c H locs cells slots Q (F0 m 84 ls (.int (bI (decide (k = 3))) :: rest))) : W p l e R s m args below meth c H locs cells slots Q (F0 m 81 ls (.ref q :: rest)) := by
  have hlk := hts (.classLink RX11 115 RX3) (by decide +kernel)
  rcases (show k = 0 ∨ k = 1 ∨ k = 2 ∨ k = 3 ∨ k = 4 by omega) with rfl | rfl | rfl | rfl | rfl
  · have hrc := va_recv hG.1 (hw.one hq) (show vwCl[pci 0]? = some (RX7, TX7, 1) from rfl) (q0 := 0) rfl
    exact va_instNo hx hb hown hlk (hG.2.2.1.2.2.1 ("LentQuill$Person", "LentQuill$Boy") (by decide +kernel)) hrc dX11_as_81 kk
  · have hrc := va_recv hG.1 (hw.one hq) (show vwCl[pci 1]? = some (RX1, TX1, 1) from rfl) (q0 := 0) rfl
    exact va_instNo hx hb hown hlk (hG.2.2.1.2.2.1 ("LentQuill$Bishop", "LentQuill$Boy") (by decide +kernel)) hrc dX11_as_81 kk
  · have hrc := va_recv hG.1 (hw.one hq) (show vwCl[pci 2]? = some (RX9, TX9, 1) from rfl) (q0 := 0) rfl
    exact va_instNo hx hb hown hlk (hG.2.2.1.2.2.1 ("LentQuill$Thief", "LentQuill$Boy") (by decide +kernel)) hrc dX11_as_81 kk
  · have hrc := va_recv hG.1 (hw.one hq) (show vwCl[pci 3]? = some (RX3, TX3, 1) from rfl) (q0 := 0) rfl
    exact va_instS hx hb hown hlk (hG.1.1 3 _ rfl).2 hrc dX11_as_81 kk
  · have hrc := va_recv hG.1 (hw.one hq) (show vwCl[pci 4]? = some (RX0, TX0, 1) from rfl) (q0 := 0) rfl
    exact va_instNo hx hb hown hlk (hG.2.2.1.2.2.1 ("LentQuill$Abbot", "LentQuill$Boy") (by decide +kernel)) hrc dX11_as_81 kk
set_option maxHeartbeats 4000000 in
set_option maxRecDepth 100000 in
theorem insX11_as_94 {p : Program} {l : Launch} {e : Env} {R : Room} {s : State} {m : MethodId} {args : Array Value} {below : List Frame} {meth : Method} {c : Code} {H : Heap} {locs : List Loc} {cells slots : Nat} {Q : State → Prop} {ls : Array Slot} {rest : List Value} {N0 : Nat} {G : XG} {w : Wd} (hx : p.tables.exec = Jvm.exec) (hb : c.code = cX11_as) (hown : s.vm.findClass RX11 = some m.cls) (hts : ∀ x ∈ wsX11_as, x.before args s = true) (hG : GK G s) (hw : PW N0 G w H) {q k v : Nat} (hk : k ≤ 4) (hq : w q = some (eO (pci k) [.int (nI v)])) (kk : W p l e R s m args below meth c H locs cells slots Q (F0 m 97 ls (.int (bI (decide (k = 4))) :: rest))) : W p l e R s m args below meth c H locs cells slots Q (F0 m 94 ls (.ref q :: rest)) := by
  have hlk := hts (.classLink RX11 117 RX0) (by decide +kernel)
  rcases (show k = 0 ∨ k = 1 ∨ k = 2 ∨ k = 3 ∨ k = 4 by omega) with rfl | rfl | rfl | rfl | rfl
  · have hrc := va_recv hG.1 (hw.one hq) (show vwCl[pci 0]? = some (RX7, TX7, 1) from rfl) (q0 := 0) rfl
    exact va_instNo hx hb hown hlk (hG.2.2.1.2.2.1 ("LentQuill$Person", "LentQuill$Abbot") (by decide +kernel)) hrc dX11_as_94 kk
  · have hrc := va_recv hG.1 (hw.one hq) (show vwCl[pci 1]? = some (RX1, TX1, 1) from rfl) (q0 := 0) rfl
    exact va_instNo hx hb hown hlk (hG.2.2.1.2.2.1 ("LentQuill$Bishop", "LentQuill$Abbot") (by decide +kernel)) hrc dX11_as_94 kk
  · have hrc := va_recv hG.1 (hw.one hq) (show vwCl[pci 2]? = some (RX9, TX9, 1) from rfl) (q0 := 0) rfl
    exact va_instNo hx hb hown hlk (hG.2.2.1.2.2.1 ("LentQuill$Thief", "LentQuill$Abbot") (by decide +kernel)) hrc dX11_as_94 kk
  · have hrc := va_recv hG.1 (hw.one hq) (show vwCl[pci 3]? = some (RX3, TX3, 1) from rfl) (q0 := 0) rfl
    exact va_instNo hx hb hown hlk (hG.2.2.1.2.2.1 ("LentQuill$Boy", "LentQuill$Abbot") (by decide +kernel)) hrc dX11_as_94 kk
  · have hrc := va_recv hG.1 (hw.one hq) (show vwCl[pci 4]? = some (RX0, TX0, 1) from rfl) (q0 := 0) rfl
    exact va_instS hx hb hown hlk (hG.1.1 0 _ rfl).2 hrc dX11_as_94 kk
set_option maxHeartbeats 4000000 in
set_option maxRecDepth 100000 in
theorem kX11_as (l : Launch) (N0 : Nat) (G : XG) (w : Wd) (x0 Z : Nat) (S : QS) (hR : RLQ G w x0 Z S) (hW : WF S) (hZx : x0 + 52 ≤ Z) (x y : Int32) : XM l yX11_as wsX11_as (rmD 3) N0 G [.ref x0, .int x, .int y] w vI (fun r w1 => v_as S x y = r ∧ w = w1) 0 0 := by
  refine XM.of (cc := cX11_as) (maxL := 4) (ret := (some .int)) (by decide) rfl (Nat.le_of_ble_eq_true rfl) ?_
  intro p e s m below meth c hx hb hr hlk hin0 hml hown hts hN hw hG hS ls hl
  have hown : s.vm.findClass RX11 = some m.cls := hown
  have hiX11 : ∀ x ∈ u_ws RX11 TX11 9, x ∈ wsX11_as := by decide +kernel
  have hlnk0 := hts (.fieldLink RX11 19 "LentQuill" "town" "LLentQuill$Town;") (by decide +kernel)
  have hl : lh ls 4 [some (.ref x0), some (.int x), some (.int y), none] := hl
  obtain ⟨hx0, hPg, hTn, hBk, ⟨Bi, hBi, hBie⟩, ⟨hs, Ts, fw, fr, hSr⟩, ⟨dsF, hdF, F, hFr⟩⟩ := id hR
  obtain ⟨h5, hlim⟩ := hTn.five
  have hsn : sn S = (sP S).length := rfl
  have hpgc := hPg.cell
  have htnc := hTn.cell
  have hbkc := hBk.cell
  have hbic := hBi.cell
  have hsrc := hSr.cell
  have hfrc := hFr.1
  obtain ⟨hd6, hh6, hdw⟩ := hBk.six
  have hsd : (sd S).length = (sB S).2.1.length := rfl
  have hsh : (sh S).length = (sB S).2.2.length := rfl
  rcases inR_or x (sn S) with ⟨i, hi, hi31, rfl⟩ | hx1
  · skip
    refine xaload_n hx hb dX11_as_0 hl rfl ?_
    refine xget (C := RX11) (T := TX11) (N := 9) hx hb (ci := 11) hts hiX11 hown hG hw (by repeat first | assumption | exact wu_eq _ _ _ | refine wu_ne (by omega) ?_) rfl 1 (by decide) hlnk0 (fun _ h9 => h9) rfl dX11_as_1 ?_
    refine xiload_n hx hb dX11_as_4 hl rfl ?_
    refine xVr ⟨hx, hb, hml, hown, hts⟩ (kX10_one l N0 G _ _ Z _ _ hTn i hi) (cwV 1 hts gX11_as_X10_one rfl rfl rfl (by decide +kernel) ⟨Nat.le_of_ble_eq_true rfl, Nat.le_of_ble_eq_true rfl⟩) hG hN hw hS (ci := 10) (by repeat first | assumption | exact wu_eq _ _ _ | refine wu_ne (by omega) ?_) rfl rfl hl.1 rfl (Nat.le_of_ble_eq_true rfl) dX11_as_5 ⟨Nat.le_of_ble_eq_true rfl, Nat.le_of_ble_eq_true rfl⟩ (fun r5 w5 H locs hp5 hw hS => ?_)
    obtain ⟨⟨q, rfl, hqZ, hq⟩, rfl⟩ := hp5
    refine xrf rfl ?_
    first | refine xastore_n hx hb dX11_as_8 hl (by decide) rfl (fun ls hl => ?_) | refine xastore_nN hx hb dX11_as_8 hl (by decide) rfl (fun ls hl => ?_)
    refine xaload_n hx hb dX11_as_9 hl rfl ?_
    refine lv_ifnonnull (tgt := 16) hx hb dX11_as_10 (by decide) ?_
    refine xiload_n hx hb dX11_as_16 hl rfl ?_
    rcases sw5 y with rfl | rfl | rfl | rfl | rfl | hy1
    · skip
      refine lv_tableIn (off := 35) (tgt := 52) hx hb dX11_as_17 (by decide) (by decide) (by decide) (by decide) ?_
      refine xiload_n hx hb dX11_as_52 hl rfl ?_
      exact xiret hx hb hr hlk hw hS dX11_as_53 ⟨by rw [v_as, onR_in hi hi31, onR_in (by omega) (by omega)]; exact if_pos (Or.inl rfl), rfl⟩
    · skip
      refine lv_tableIn (off := 37) (tgt := 54) hx hb dX11_as_17 (by decide) (by decide) (by decide) (by decide) ?_
      refine xaload_n hx hb dX11_as_54 hl rfl ?_
      refine insX11_as_55 hx hb hown hts hG hw ((hTn.kd hi).1) hq ?_
      first | refine xifb_eq (tgt := 65) hx hb dX11_as_58 (by decide) (fun c58 => ?_) (fun c58 => ?_) | refine xif_eq (tgt := 65) hx hb dX11_as_58 (by decide) (by omega) (fun c58 => ?_) (fun c58 => ?_) | refine lv_if_eq (tgt := 65) hx hb dX11_as_58 (by decide) (fun c58 => ?_) (fun c58 => ?_)
      · skip
        refine lv_iconst (v := -1) hx hb dX11_as_65 (by decide) ?_
        exact xiret hx hb hr hlk hw hS dX11_as_66 ⟨by rw [v_as, onR_in hi hi31, onR_in (by omega) (by omega)]; first | exact if_pos (by have := of_decide_eq_true c58; omega) | exact if_neg (by have := of_decide_eq_false c58; omega), rfl⟩
      · skip
        refine xiload_n hx hb dX11_as_61 hl rfl ?_
        refine lv_goto (tgt := 66) hx hb dX11_as_62 (by decide) ?_
        exact xiret hx hb hr hlk hw hS dX11_as_66 ⟨by rw [v_as, onR_in hi hi31, onR_in (by omega) (by omega)]; first | exact if_pos (by have := of_decide_eq_true c58; omega) | exact if_neg (by have := of_decide_eq_false c58; omega), rfl⟩
    · skip
      refine lv_tableIn (off := 50) (tgt := 67) hx hb dX11_as_17 (by decide) (by decide) (by decide) (by decide) ?_
      refine xaload_n hx hb dX11_as_67 hl rfl ?_
      refine insX11_as_68 hx hb hown hts hG hw ((hTn.kd hi).1) hq ?_
      first | refine xifb_eq (tgt := 78) hx hb dX11_as_71 (by decide) (fun c71 => ?_) (fun c71 => ?_) | refine xif_eq (tgt := 78) hx hb dX11_as_71 (by decide) (by omega) (fun c71 => ?_) (fun c71 => ?_) | refine lv_if_eq (tgt := 78) hx hb dX11_as_71 (by decide) (fun c71 => ?_) (fun c71 => ?_)
      · skip
        refine lv_iconst (v := -1) hx hb dX11_as_78 (by decide) ?_
        exact xiret hx hb hr hlk hw hS dX11_as_79 ⟨by rw [v_as, onR_in hi hi31, onR_in (by omega) (by omega)]; first | exact if_pos (by have := of_decide_eq_true c71; omega) | exact if_neg (by have := of_decide_eq_false c71; omega), rfl⟩
      · skip
        refine xiload_n hx hb dX11_as_74 hl rfl ?_
        refine lv_goto (tgt := 79) hx hb dX11_as_75 (by decide) ?_
        exact xiret hx hb hr hlk hw hS dX11_as_79 ⟨by rw [v_as, onR_in hi hi31, onR_in (by omega) (by omega)]; first | exact if_pos (by have := of_decide_eq_true c71; omega) | exact if_neg (by have := of_decide_eq_false c71; omega), rfl⟩
    · skip
      refine lv_tableIn (off := 63) (tgt := 80) hx hb dX11_as_17 (by decide) (by decide) (by decide) (by decide) ?_
      refine xaload_n hx hb dX11_as_80 hl rfl ?_
      refine insX11_as_81 hx hb hown hts hG hw ((hTn.kd hi).1) hq ?_
      first | refine xifb_eq (tgt := 91) hx hb dX11_as_84 (by decide) (fun c84 => ?_) (fun c84 => ?_) | refine xif_eq (tgt := 91) hx hb dX11_as_84 (by decide) (by omega) (fun c84 => ?_) (fun c84 => ?_) | refine lv_if_eq (tgt := 91) hx hb dX11_as_84 (by decide) (fun c84 => ?_) (fun c84 => ?_)
      · skip
        refine lv_iconst (v := -1) hx hb dX11_as_91 (by decide) ?_
        exact xiret hx hb hr hlk hw hS dX11_as_92 ⟨by rw [v_as, onR_in hi hi31, onR_in (by omega) (by omega)]; first | exact if_pos (by have := of_decide_eq_true c84; omega) | exact if_neg (by have := of_decide_eq_false c84; omega), rfl⟩
      · skip
        refine xiload_n hx hb dX11_as_87 hl rfl ?_
        refine lv_goto (tgt := 92) hx hb dX11_as_88 (by decide) ?_
        exact xiret hx hb hr hlk hw hS dX11_as_92 ⟨by rw [v_as, onR_in hi hi31, onR_in (by omega) (by omega)]; first | exact if_pos (by have := of_decide_eq_true c84; omega) | exact if_neg (by have := of_decide_eq_false c84; omega), rfl⟩
    · skip
      refine lv_tableIn (off := 76) (tgt := 93) hx hb dX11_as_17 (by decide) (by decide) (by decide) (by decide) ?_
      refine xaload_n hx hb dX11_as_93 hl rfl ?_
      refine insX11_as_94 hx hb hown hts hG hw ((hTn.kd hi).1) hq ?_
      first | refine xifb_eq (tgt := 104) hx hb dX11_as_97 (by decide) (fun c97 => ?_) (fun c97 => ?_) | refine xif_eq (tgt := 104) hx hb dX11_as_97 (by decide) (by omega) (fun c97 => ?_) (fun c97 => ?_) | refine lv_if_eq (tgt := 104) hx hb dX11_as_97 (by decide) (fun c97 => ?_) (fun c97 => ?_)
      · skip
        refine lv_iconst (v := -1) hx hb dX11_as_104 (by decide) ?_
        exact xiret hx hb hr hlk hw hS dX11_as_105 ⟨by rw [v_as, onR_in hi hi31, onR_in (by omega) (by omega)]; first | exact if_pos (by have := of_decide_eq_true c97; omega) | exact if_neg (by have := of_decide_eq_false c97; omega), rfl⟩
      · skip
        refine xiload_n hx hb dX11_as_100 hl rfl ?_
        refine lv_goto (tgt := 105) hx hb dX11_as_101 (by decide) ?_
        exact xiret hx hb hr hlk hw hS dX11_as_105 ⟨by rw [v_as, onR_in hi hi31, onR_in (by omega) (by omega)]; first | exact if_pos (by have := of_decide_eq_true c97; omega) | exact if_neg (by have := of_decide_eq_false c97; omega), rfl⟩
    · skip
      refine lv_tableOut (tgt := 106) hx hb dX11_as_17 (tab_out hy1 (by decide)) (by decide) ?_
      refine lv_bipush (v := -102) hx hb dX11_as_106 (by decide) ?_
      exact xiret hx hb hr hlk hw hS dX11_as_108 ⟨by rw [v_as, onR_in hi hi31, onR_out hy1], rfl⟩
  · skip
    refine xaload_n hx hb dX11_as_0 hl rfl ?_
    refine xget (C := RX11) (T := TX11) (N := 9) hx hb (ci := 11) hts hiX11 hown hG hw (by repeat first | assumption | exact wu_eq _ _ _ | refine wu_ne (by omega) ?_) rfl 1 (by decide) hlnk0 (fun _ h9 => h9) rfl dX11_as_1 ?_
    refine xiload_n hx hb dX11_as_4 hl rfl ?_
    refine xVr ⟨hx, hb, hml, hown, hts⟩ (kX10_one_out l N0 G _ _ Z _ _ hTn _ hx1) (cwV 1 hts gX11_as_X10_one rfl rfl rfl (by decide +kernel) ⟨Nat.le_of_ble_eq_true rfl, Nat.le_of_ble_eq_true rfl⟩) hG hN hw hS (ci := 10) (by repeat first | assumption | exact wu_eq _ _ _ | refine wu_ne (by omega) ?_) rfl rfl hl.1 rfl (Nat.le_of_ble_eq_true rfl) dX11_as_5 ⟨Nat.le_of_ble_eq_true rfl, Nat.le_of_ble_eq_true rfl⟩ (fun r5 w5 H locs hp5 hw hS => ?_)
    obtain ⟨rfl, rfl⟩ := hp5
    refine xrn rfl ?_
    first | refine xastore_n hx hb dX11_as_8 hl (by decide) rfl (fun ls hl => ?_) | refine xastore_nN hx hb dX11_as_8 hl (by decide) rfl (fun ls hl => ?_)
    refine xaload_nN hx hb dX11_as_9 hl rfl ?_
    refine lv_ifnonnullN hx hb dX11_as_10 ?_
    refine lv_bipush (v := -101) hx hb dX11_as_13 (by decide) ?_
    exact xiret hx hb hr hlk hw hS dX11_as_15 ⟨by rw [v_as, onR_out hx1], rfl⟩
set_option maxHeartbeats 4000000 in
set_option maxRecDepth 100000 in
theorem kX11_lend (l : Launch) (N0 : Nat) (G : XG) (w : Wd) (x0 Z : Nat) (S : QS) (hR : RLQ G w x0 Z S) (hW : WF S) (hZx : x0 + 52 ≤ Z) (x y : Int32) : XM l yX11_lend wsX11_lend (rmD 5) N0 G [.ref x0, .int x, .int y] w vI (fun r w1 => (o_lend S x y).1 = r ∧ RLQ G w1 x0 Z (o_lend S x y).2 ∧ Out w w1 x0 (x0 + 52)) 0 0 := by
  refine XM.of (cc := cX11_lend) (maxL := 4) (ret := (some .int)) (by decide) rfl (Nat.le_of_ble_eq_true rfl) ?_
  intro p e s m below meth c hx hb hr hlk hin0 hml hown hts hN hw hG hS ls hl
  have hown : s.vm.findClass RX11 = some m.cls := hown
  have hiX11 : ∀ x ∈ u_ws RX11 TX11 9, x ∈ wsX11_lend := by decide +kernel
  have hlnk0 := hts (.fieldLink RX11 19 "LentQuill" "town" "LLentQuill$Town;") (by decide +kernel)
  have hl : lh ls 4 [some (.ref x0), some (.int x), some (.int y), none] := hl
  obtain ⟨hx0, hPg, hTn, hBk, ⟨Bi, hBi, hBie⟩, ⟨hs, Ts, fw, fr, hSr⟩, ⟨dsF, hdF, F, hFr⟩⟩ := id hR
  obtain ⟨h5, hlim⟩ := hTn.five
  have hsn : sn S = (sP S).length := rfl
  have hpgc := hPg.cell
  have htnc := hTn.cell
  have hbkc := hBk.cell
  have hbic := hBi.cell
  have hsrc := hSr.cell
  have hfrc := hFr.1
  obtain ⟨hd6, hh6, hdw⟩ := hBk.six
  have hsd : (sd S).length = (sB S).2.1.length := rfl
  have hsh : (sh S).length = (sB S).2.2.length := rfl
  rcases inR_or x (sn S) with ⟨i, hi, hi31, rfl⟩ | hx1 <;> rcases inR_or y (sn S) with ⟨k, hk, hk31, rfl⟩ | hy1
  · skip
    have hpi := hBk.pen (i := i) (by omega)
    have hpic := hpi.cell
    have hali : ∀ x ∈ (sB S).1 i, x < (sP S).length := hW.1.1 i hi
    obtain ⟨hl0, hl41⟩ := hpi.len
    refine xaload_n hx hb dX11_lend_0 hl rfl ?_
    refine xiload_n hx hb dX11_lend_1 hl rfl ?_
    refine xVr ⟨hx, hb, hml, hown, hts⟩ (kX11_penOf l N0 G _ _ Z S hR hW hZx i hi) (cwV 1 hts gX11_lend_X11_penOf rfl rfl rfl (by decide +kernel) ⟨Nat.le_of_ble_eq_true rfl, Nat.le_of_ble_eq_true rfl⟩) hG hN hw hS (ci := 11) (by repeat first | assumption | exact wu_eq _ _ _ | refine wu_ne (by omega) ?_) rfl rfl hl.1 rfl (Nat.le_of_ble_eq_true rfl) dX11_lend_2 ⟨Nat.le_of_ble_eq_true rfl, Nat.le_of_ble_eq_true rfl⟩ (fun r2 w2 H locs hp2 hw hS => ?_)
    obtain ⟨rfl, rfl⟩ := hp2
    refine xrf rfl ?_
    first | refine xastore_n hx hb dX11_lend_5 hl (by decide) rfl (fun ls hl => ?_) | refine xastore_nN hx hb dX11_lend_5 hl (by decide) rfl (fun ls hl => ?_)
    refine xaload_n hx hb dX11_lend_6 hl rfl ?_
    refine lv_ifnull hx hb dX11_lend_7 ?_
    refine xaload_n hx hb dX11_lend_10 hl rfl ?_
    refine xget (C := RX11) (T := TX11) (N := 9) hx hb (ci := 11) hts hiX11 hown hG hw (by repeat first | assumption | exact wu_eq _ _ _ | refine wu_ne (by omega) ?_) rfl 1 (by decide) hlnk0 (fun _ h9 => h9) rfl dX11_lend_11 ?_
    refine xiload_n hx hb dX11_lend_14 hl rfl ?_
    refine xVr ⟨hx, hb, hml, hown, hts⟩ (kX10_one l N0 G _ _ Z _ _ hTn k hk) (cwV 1 hts gX11_lend_X10_one rfl rfl rfl (by decide +kernel) ⟨Nat.le_of_ble_eq_true rfl, Nat.le_of_ble_eq_true rfl⟩) hG hN hw hS (ci := 10) (by repeat first | assumption | exact wu_eq _ _ _ | refine wu_ne (by omega) ?_) rfl rfl hl.1 rfl (Nat.le_of_ble_eq_true rfl) dX11_lend_15 ⟨Nat.le_of_ble_eq_true rfl, Nat.le_of_ble_eq_true rfl⟩ (fun r15 w15 H locs hp15 hw hS => ?_)
    obtain ⟨⟨q, rfl, hqZ, hq⟩, rfl⟩ := hp15
    refine xrf rfl ?_
    refine lv_ifnonnull (tgt := 24) hx hb dX11_lend_18 (by decide) ?_
    refine xaload_n hx hb dX11_lend_24 hl rfl ?_
    refine xget (C := RX11) (T := TX11) (N := 9) hx hb (ci := 11) hts hiX11 hown hG hw (by repeat first | assumption | exact wu_eq _ _ _ | refine wu_ne (by omega) ?_) rfl 1 (by decide) hlnk0 (fun _ h9 => h9) rfl dX11_lend_25 ?_
    refine xaload_n hx hb dX11_lend_28 hl rfl ?_
    refine xiload_n hx hb dX11_lend_29 hl rfl ?_
    refine xVi ⟨hx, hb, hml, hown, hts⟩ (kX10_wouldPass l N0 G _ _ Z _ _ hTn _ _ hpi hali k hk) (cwV 2 hts gX11_lend_X10_wouldPass rfl rfl rfl (by decide +kernel) ⟨Nat.le_of_ble_eq_true rfl, Nat.le_of_ble_eq_true rfl⟩) hG hN hw hS (ci := 10) (by repeat first | assumption | exact wu_eq _ _ _ | refine wu_ne (by omega) ?_) rfl rfl hl.1 rfl (Nat.le_of_ble_eq_true rfl) dX11_lend_30 ⟨Nat.le_of_ble_eq_true rfl, Nat.le_of_ble_eq_true rfl⟩ (fun r30 w30 H locs hp30 hw hS => ?_)
    obtain ⟨rfl, rfl⟩ := hp30
    first | refine xifb_ne (tgt := 39) hx hb dX11_lend_33 (by decide) (fun c33 => ?_) (fun c33 => ?_) | refine xif_ne (tgt := 39) hx hb dX11_lend_33 (by decide) (by omega) (fun c33 => ?_) (fun c33 => ?_) | refine lv_if_ne (tgt := 39) hx hb dX11_lend_33 (by decide) (fun c33 => ?_) (fun c33 => ?_)
    · skip
      have d33 := of_decide_eq_true c33
      refine xaload_n hx hb dX11_lend_39 hl rfl ?_
      refine xVi ⟨hx, hb, hml, hown, hts⟩ (kX6_isLentOut l N0 G _ _ _ hpi) (cwV 0 hts gX11_lend_X6_isLentOut rfl rfl rfl (by decide +kernel) ⟨Nat.le_of_ble_eq_true rfl, Nat.le_of_ble_eq_true rfl⟩) hG hN hw hS (ci := 6) (by repeat first | assumption | exact wu_eq _ _ _ | refine wu_ne (by omega) ?_) rfl rfl hl.1 rfl (Nat.le_of_ble_eq_true rfl) dX11_lend_40 ⟨Nat.le_of_ble_eq_true rfl, Nat.le_of_ble_eq_true rfl⟩ (fun r40 w40 H locs hp40 hw hS => ?_)
      obtain ⟨rfl, rfl⟩ := hp40
      first | refine xifb_eq (tgt := 49) hx hb dX11_lend_43 (by decide) (fun c43 => ?_) (fun c43 => ?_) | refine xif_eq (tgt := 49) hx hb dX11_lend_43 (by decide) (by omega) (fun c43 => ?_) (fun c43 => ?_) | refine lv_if_eq (tgt := 49) hx hb dX11_lend_43 (by decide) (fun c43 => ?_) (fun c43 => ?_)
      · skip
        have d43 := of_decide_eq_false c43
        refine xaload_n hx hb dX11_lend_49 hl rfl ?_
        refine xiload_n hx hb dX11_lend_50 hl rfl ?_
        refine xVv ⟨hx, hb, hml, hown, hts⟩ (kX6_passTo l N0 G _ _ _ hpi k (by omega)) (cwV 1 hts gX11_lend_X6_passTo rfl rfl rfl (by decide +kernel) ⟨Nat.le_of_ble_eq_true rfl, Nat.le_of_ble_eq_true rfl⟩) hG hN hw hS (ci := 6) hpi.cell rfl rfl hl.1 rfl (Nat.le_of_ble_eq_true rfl) dX11_lend_51 ⟨Nat.le_of_ble_eq_true rfl, Nat.le_of_ble_eq_true rfl⟩ (fun r51 w51 H locs hp51 hw hS => ?_)
        obtain ⟨hp2, hO2⟩ := hp51
        have hT2 := hTn.out hO2 (by omega) (by omega)
        have htc2 := hT2.cell
        have hx2 := hO2.at (by omega) hx0
        refine xaload_n hx hb dX11_lend_54 hl rfl ?_
        refine xget (C := RX11) (T := TX11) (N := 9) hx hb (ci := 11) hts hiX11 hown hG hw (by repeat first | assumption | exact wu_eq _ _ _ | refine wu_ne (by omega) ?_) rfl 1 (by decide) hlnk0 (fun _ h9 => h9) rfl dX11_lend_55 ?_
        refine xaload_n hx hb dX11_lend_58 hl rfl ?_
        refine xVi ⟨hx, hb, hml, hown, hts⟩ (kX10_boundBy l N0 G _ _ Z _ _ hT2 _ _ hp2 (hall_cons hali hk)) (cwV 1 hts gX11_lend_X10_boundBy rfl rfl rfl (by decide +kernel) ⟨Nat.le_of_ble_eq_true rfl, Nat.le_of_ble_eq_true rfl⟩) hG hN hw hS (ci := 10) (by repeat first | assumption | exact wu_eq _ _ _ | refine wu_ne (by omega) ?_) rfl rfl hl.1 rfl (Nat.le_of_ble_eq_true rfl) dX11_lend_59 ⟨Nat.le_of_ble_eq_true rfl, Nat.le_of_ble_eq_true rfl⟩ (fun r59 w59 H locs hp59 hw hS => ?_)
        obtain ⟨rfl, rfl⟩ := hp59
        exact xiret hx hb hr hlk hw hS dX11_lend_62 ⟨by rw [lend_yes hi hi31 hk hk31 d33 d43]; rfl, by rw [lend_yes hi hi31 hk hk31 d33 d43]; exact hR.bks (hO2.mono (by omega) (by omega)) (hBk.pens (i := i) (by omega) (by show RPen G _ _ (va_up (sB S).1 i _ i); rw [vup_eq]; exact hp2) hO2 (fun j _ hne => vup_ne _ _ hne)) hZx, hO2.mono (by omega) (by omega)⟩
      · skip
        have d43 := of_decide_eq_true c43
        refine lv_bipush (v := -104) hx hb dX11_lend_46 (by decide) ?_
        exact xiret hx hb hr hlk hw hS dX11_lend_48 ⟨by rw [lend_full hi hi31 hk hk31 d33 d43], by rw [lend_full hi hi31 hk hk31 d33 d43]; exact hR, Out.rf⟩
    · skip
      have d33 := of_decide_eq_false c33
      refine lv_bipush (v := -103) hx hb dX11_lend_36 (by decide) ?_
      exact xiret hx hb hr hlk hw hS dX11_lend_38 ⟨by rw [lend_no hi hi31 hk hk31 d33], by rw [lend_no hi hi31 hk hk31 d33]; exact hR, Out.rf⟩
  · skip
    refine xaload_n hx hb dX11_lend_0 hl rfl ?_
    refine xiload_n hx hb dX11_lend_1 hl rfl ?_
    refine xVr ⟨hx, hb, hml, hown, hts⟩ (kX11_penOf l N0 G _ _ Z S hR hW hZx i hi) (cwV 1 hts gX11_lend_X11_penOf rfl rfl rfl (by decide +kernel) ⟨Nat.le_of_ble_eq_true rfl, Nat.le_of_ble_eq_true rfl⟩) hG hN hw hS (ci := 11) (by repeat first | assumption | exact wu_eq _ _ _ | refine wu_ne (by omega) ?_) rfl rfl hl.1 rfl (Nat.le_of_ble_eq_true rfl) dX11_lend_2 ⟨Nat.le_of_ble_eq_true rfl, Nat.le_of_ble_eq_true rfl⟩ (fun r2 w2 H locs hp2 hw hS => ?_)
    obtain ⟨rfl, rfl⟩ := hp2
    refine xrf rfl ?_
    first | refine xastore_n hx hb dX11_lend_5 hl (by decide) rfl (fun ls hl => ?_) | refine xastore_nN hx hb dX11_lend_5 hl (by decide) rfl (fun ls hl => ?_)
    refine xaload_n hx hb dX11_lend_6 hl rfl ?_
    refine lv_ifnull hx hb dX11_lend_7 ?_
    refine xaload_n hx hb dX11_lend_10 hl rfl ?_
    refine xget (C := RX11) (T := TX11) (N := 9) hx hb (ci := 11) hts hiX11 hown hG hw (by repeat first | assumption | exact wu_eq _ _ _ | refine wu_ne (by omega) ?_) rfl 1 (by decide) hlnk0 (fun _ h9 => h9) rfl dX11_lend_11 ?_
    refine xiload_n hx hb dX11_lend_14 hl rfl ?_
    refine xVr ⟨hx, hb, hml, hown, hts⟩ (kX10_one_out l N0 G _ _ Z _ _ hTn _ hy1) (cwV 1 hts gX11_lend_X10_one rfl rfl rfl (by decide +kernel) ⟨Nat.le_of_ble_eq_true rfl, Nat.le_of_ble_eq_true rfl⟩) hG hN hw hS (ci := 10) (by repeat first | assumption | exact wu_eq _ _ _ | refine wu_ne (by omega) ?_) rfl rfl hl.1 rfl (Nat.le_of_ble_eq_true rfl) dX11_lend_15 ⟨Nat.le_of_ble_eq_true rfl, Nat.le_of_ble_eq_true rfl⟩ (fun r15 w15 H locs hp15 hw hS => ?_)
    obtain ⟨rfl, rfl⟩ := hp15
    refine xrn rfl ?_
    refine lv_ifnonnullN hx hb dX11_lend_18 ?_
    refine lv_bipush (v := -101) hx hb dX11_lend_21 (by decide) ?_
    exact xiret hx hb hr hlk hw hS dX11_lend_23 ⟨by rw [o_lend, onR_in hi hi31, onR_out hy1], by rw [o_lend, onR_in hi hi31, onR_out hy1]; exact hR, Out.rf⟩
  · skip
    refine xaload_n hx hb dX11_lend_0 hl rfl ?_
    refine xiload_n hx hb dX11_lend_1 hl rfl ?_
    refine xVr ⟨hx, hb, hml, hown, hts⟩ (kX11_penOf_out l N0 G _ _ Z S hR hW hZx _ hx1) (cwV 1 hts gX11_lend_X11_penOf rfl rfl rfl (by decide +kernel) ⟨Nat.le_of_ble_eq_true rfl, Nat.le_of_ble_eq_true rfl⟩) hG hN hw hS (ci := 11) (by repeat first | assumption | exact wu_eq _ _ _ | refine wu_ne (by omega) ?_) rfl rfl hl.1 rfl (Nat.le_of_ble_eq_true rfl) dX11_lend_2 ⟨Nat.le_of_ble_eq_true rfl, Nat.le_of_ble_eq_true rfl⟩ (fun r2 w2 H locs hp2 hw hS => ?_)
    obtain ⟨rfl, rfl⟩ := hp2
    refine xrn rfl ?_
    first | refine xastore_n hx hb dX11_lend_5 hl (by decide) rfl (fun ls hl => ?_) | refine xastore_nN hx hb dX11_lend_5 hl (by decide) rfl (fun ls hl => ?_)
    refine xaload_nN hx hb dX11_lend_6 hl rfl ?_
    refine lv_ifnullN (tgt := 21) hx hb dX11_lend_7 (by decide) ?_
    refine lv_bipush (v := -101) hx hb dX11_lend_21 (by decide) ?_
    exact xiret hx hb hr hlk hw hS dX11_lend_23 ⟨by rw [o_lend, onR_out hx1], by rw [o_lend, onR_out hx1]; exact hR, Out.rf⟩
  · skip
    refine xaload_n hx hb dX11_lend_0 hl rfl ?_
    refine xiload_n hx hb dX11_lend_1 hl rfl ?_
    refine xVr ⟨hx, hb, hml, hown, hts⟩ (kX11_penOf_out l N0 G _ _ Z S hR hW hZx _ hx1) (cwV 1 hts gX11_lend_X11_penOf rfl rfl rfl (by decide +kernel) ⟨Nat.le_of_ble_eq_true rfl, Nat.le_of_ble_eq_true rfl⟩) hG hN hw hS (ci := 11) (by repeat first | assumption | exact wu_eq _ _ _ | refine wu_ne (by omega) ?_) rfl rfl hl.1 rfl (Nat.le_of_ble_eq_true rfl) dX11_lend_2 ⟨Nat.le_of_ble_eq_true rfl, Nat.le_of_ble_eq_true rfl⟩ (fun r2 w2 H locs hp2 hw hS => ?_)
    obtain ⟨rfl, rfl⟩ := hp2
    refine xrn rfl ?_
    first | refine xastore_n hx hb dX11_lend_5 hl (by decide) rfl (fun ls hl => ?_) | refine xastore_nN hx hb dX11_lend_5 hl (by decide) rfl (fun ls hl => ?_)
    refine xaload_nN hx hb dX11_lend_6 hl rfl ?_
    refine lv_ifnullN (tgt := 21) hx hb dX11_lend_7 (by decide) ?_
    refine lv_bipush (v := -101) hx hb dX11_lend_21 (by decide) ?_
    exact xiret hx hb hr hlk hw hS dX11_lend_23 ⟨by rw [o_lend, onR_out hx1], by rw [o_lend, onR_out hx1]; exact hR, Out.rf⟩
set_option maxHeartbeats 4000000 in
set_option maxRecDepth 100000 in
theorem kX11_had (l : Launch) (N0 : Nat) (G : XG) (w : Wd) (x0 Z : Nat) (S : QS) (hR : RLQ G w x0 Z S) (hW : WF S) (hZx : x0 + 52 ≤ Z) (x y : Int32) : XM l yX11_had wsX11_had (rmD 4) N0 G [.ref x0, .int x, .int y] w vI (fun r w1 => v_had S x y = r ∧ w = w1) 0 0 := by
  refine XM.of (cc := cX11_had) (maxL := 4) (ret := (some .int)) (by decide) rfl (Nat.le_of_ble_eq_true rfl) ?_
  intro p e s m below meth c hx hb hr hlk hin0 hml hown hts hN hw hG hS ls hl
  have hown : s.vm.findClass RX11 = some m.cls := hown
  have hl : lh ls 4 [some (.ref x0), some (.int x), some (.int y), none] := hl
  obtain ⟨hx0, hPg, hTn, hBk, ⟨Bi, hBi, hBie⟩, ⟨hs, Ts, fw, fr, hSr⟩, ⟨dsF, hdF, F, hFr⟩⟩ := id hR
  obtain ⟨h5, hlim⟩ := hTn.five
  have hsn : sn S = (sP S).length := rfl
  have hpgc := hPg.cell
  have htnc := hTn.cell
  have hbkc := hBk.cell
  have hbic := hBi.cell
  have hsrc := hSr.cell
  have hfrc := hFr.1
  obtain ⟨hd6, hh6, hdw⟩ := hBk.six
  have hsd : (sd S).length = (sB S).2.1.length := rfl
  have hsh : (sh S).length = (sB S).2.2.length := rfl
  rcases inR_or x (sn S) with ⟨i, hi, hi31, rfl⟩ | hx1 <;> rcases inR_or y 41 with ⟨k, hk, hk31, rfl⟩ | hy1
  · skip
    have hpi := hBk.pen (i := i) (by omega)
    have hpic := hpi.cell
    have hali : ∀ x ∈ (sB S).1 i, x < (sP S).length := hW.1.1 i hi
    obtain ⟨hl0, hl41⟩ := hpi.len
    refine xaload_n hx hb dX11_had_0 hl rfl ?_
    refine xiload_n hx hb dX11_had_1 hl rfl ?_
    refine xVr ⟨hx, hb, hml, hown, hts⟩ (kX11_penOf l N0 G _ _ Z S hR hW hZx i hi) (cwV 1 hts gX11_had_X11_penOf rfl rfl rfl (by decide +kernel) ⟨Nat.le_of_ble_eq_true rfl, Nat.le_of_ble_eq_true rfl⟩) hG hN hw hS (ci := 11) (by repeat first | assumption | exact wu_eq _ _ _ | refine wu_ne (by omega) ?_) rfl rfl hl.1 rfl (Nat.le_of_ble_eq_true rfl) dX11_had_2 ⟨Nat.le_of_ble_eq_true rfl, Nat.le_of_ble_eq_true rfl⟩ (fun r2 w2 H locs hp2 hw hS => ?_)
    obtain ⟨rfl, rfl⟩ := hp2
    refine xrf rfl ?_
    first | refine xastore_n hx hb dX11_had_5 hl (by decide) rfl (fun ls hl => ?_) | refine xastore_nN hx hb dX11_had_5 hl (by decide) rfl (fun ls hl => ?_)
    refine xaload_n hx hb dX11_had_6 hl rfl ?_
    refine lv_ifnonnull (tgt := 13) hx hb dX11_had_7 (by decide) ?_
    refine xiload_n hx hb dX11_had_13 hl rfl ?_
    refine xif_lt (tgt := 23) hx hb dX11_had_14 (by decide) (by omega) ?_
    refine xiload_n hx hb dX11_had_17 hl rfl ?_
    refine lv_bipush (v := nI 40) hx hb dX11_had_18 (by decide) ?_
    first | refine xcmp_le (tgt := 26) hx hb dX11_had_20 (by decide) (by omega) (by omega) (fun c20 => ?_) (fun c20 => ?_) | refine lv_icmp_le (tgt := 26) hx hb dX11_had_20 (by decide) (fun c20 => ?_) (fun c20 => ?_)
    · skip
      refine xaload_n hx hb dX11_had_26 hl rfl ?_
      refine xiload_n hx hb dX11_had_27 hl rfl ?_
      refine xVi ⟨hx, hb, hml, hown, hts⟩ (kX6_holderBefore l N0 G _ _ _ hpi k (by omega)) (cwV 1 hts gX11_had_X6_holderBefore rfl rfl rfl (by decide +kernel) ⟨Nat.le_of_ble_eq_true rfl, Nat.le_of_ble_eq_true rfl⟩) hG hN hw hS (ci := 6) (by repeat first | assumption | exact wu_eq _ _ _ | refine wu_ne (by omega) ?_) rfl rfl hl.1 rfl (Nat.le_of_ble_eq_true rfl) dX11_had_28 ⟨Nat.le_of_ble_eq_true rfl, Nat.le_of_ble_eq_true rfl⟩ (fun r28 w28 H locs hp28 hw hS => ?_)
      obtain ⟨rfl, rfl⟩ := hp28
      exact xiret hx hb hr hlk hw hS dX11_had_31 ⟨by rw [v_had, onR_in hi hi31, onR_in hk hk31]; rfl, rfl⟩
    · skip
      exfalso
      omega
  · skip
    refine xaload_n hx hb dX11_had_0 hl rfl ?_
    refine xiload_n hx hb dX11_had_1 hl rfl ?_
    refine xVr ⟨hx, hb, hml, hown, hts⟩ (kX11_penOf l N0 G _ _ Z S hR hW hZx i hi) (cwV 1 hts gX11_had_X11_penOf rfl rfl rfl (by decide +kernel) ⟨Nat.le_of_ble_eq_true rfl, Nat.le_of_ble_eq_true rfl⟩) hG hN hw hS (ci := 11) (by repeat first | assumption | exact wu_eq _ _ _ | refine wu_ne (by omega) ?_) rfl rfl hl.1 rfl (Nat.le_of_ble_eq_true rfl) dX11_had_2 ⟨Nat.le_of_ble_eq_true rfl, Nat.le_of_ble_eq_true rfl⟩ (fun r2 w2 H locs hp2 hw hS => ?_)
    obtain ⟨rfl, rfl⟩ := hp2
    refine xrf rfl ?_
    first | refine xastore_n hx hb dX11_had_5 hl (by decide) rfl (fun ls hl => ?_) | refine xastore_nN hx hb dX11_had_5 hl (by decide) rfl (fun ls hl => ?_)
    refine xaload_n hx hb dX11_had_6 hl rfl ?_
    refine lv_ifnonnull (tgt := 13) hx hb dX11_had_7 (by decide) ?_
    refine xiload_n hx hb dX11_had_13 hl rfl ?_
    refine lv_if_lt (tgt := 23) hx hb dX11_had_14 (by decide) (fun c14 => ?_) (fun c14 => ?_)
    · skip
      refine lv_bipush (v := -102) hx hb dX11_had_23 (by decide) ?_
      exact xiret hx hb hr hlk hw hS dX11_had_25 ⟨by rw [v_had, onR_in hi hi31, onR_out hy1], rfl⟩
    · skip
      refine xiload_n hx hb dX11_had_17 hl rfl ?_
      refine lv_bipush (v := nI 40) hx hb dX11_had_18 (by decide) ?_
      refine lv_icmp_le (tgt := 26) hx hb dX11_had_20 (by decide) (fun c20 => ?_) (fun c20 => ?_)
      · skip
        exfalso
        exact hy1 (rawin0 c14 c20 (by omega))
      · skip
        refine lv_bipush (v := -102) hx hb dX11_had_23 (by decide) ?_
        exact xiret hx hb hr hlk hw hS dX11_had_25 ⟨by rw [v_had, onR_in hi hi31, onR_out hy1], rfl⟩
  · skip
    refine xaload_n hx hb dX11_had_0 hl rfl ?_
    refine xiload_n hx hb dX11_had_1 hl rfl ?_
    refine xVr ⟨hx, hb, hml, hown, hts⟩ (kX11_penOf_out l N0 G _ _ Z S hR hW hZx _ hx1) (cwV 1 hts gX11_had_X11_penOf rfl rfl rfl (by decide +kernel) ⟨Nat.le_of_ble_eq_true rfl, Nat.le_of_ble_eq_true rfl⟩) hG hN hw hS (ci := 11) (by repeat first | assumption | exact wu_eq _ _ _ | refine wu_ne (by omega) ?_) rfl rfl hl.1 rfl (Nat.le_of_ble_eq_true rfl) dX11_had_2 ⟨Nat.le_of_ble_eq_true rfl, Nat.le_of_ble_eq_true rfl⟩ (fun r2 w2 H locs hp2 hw hS => ?_)
    obtain ⟨rfl, rfl⟩ := hp2
    refine xrn rfl ?_
    first | refine xastore_n hx hb dX11_had_5 hl (by decide) rfl (fun ls hl => ?_) | refine xastore_nN hx hb dX11_had_5 hl (by decide) rfl (fun ls hl => ?_)
    refine xaload_nN hx hb dX11_had_6 hl rfl ?_
    refine lv_ifnonnullN hx hb dX11_had_7 ?_
    refine lv_bipush (v := -101) hx hb dX11_had_10 (by decide) ?_
    exact xiret hx hb hr hlk hw hS dX11_had_12 ⟨by rw [v_had, onR_out hx1], rfl⟩
  · skip
    refine xaload_n hx hb dX11_had_0 hl rfl ?_
    refine xiload_n hx hb dX11_had_1 hl rfl ?_
    refine xVr ⟨hx, hb, hml, hown, hts⟩ (kX11_penOf_out l N0 G _ _ Z S hR hW hZx _ hx1) (cwV 1 hts gX11_had_X11_penOf rfl rfl rfl (by decide +kernel) ⟨Nat.le_of_ble_eq_true rfl, Nat.le_of_ble_eq_true rfl⟩) hG hN hw hS (ci := 11) (by repeat first | assumption | exact wu_eq _ _ _ | refine wu_ne (by omega) ?_) rfl rfl hl.1 rfl (Nat.le_of_ble_eq_true rfl) dX11_had_2 ⟨Nat.le_of_ble_eq_true rfl, Nat.le_of_ble_eq_true rfl⟩ (fun r2 w2 H locs hp2 hw hS => ?_)
    obtain ⟨rfl, rfl⟩ := hp2
    refine xrn rfl ?_
    first | refine xastore_n hx hb dX11_had_5 hl (by decide) rfl (fun ls hl => ?_) | refine xastore_nN hx hb dX11_had_5 hl (by decide) rfl (fun ls hl => ?_)
    refine xaload_nN hx hb dX11_had_6 hl rfl ?_
    refine lv_ifnonnullN hx hb dX11_had_7 ?_
    refine lv_bipush (v := -101) hx hb dX11_had_10 (by decide) ?_
    exact xiret hx hb hr hlk hw hS dX11_had_12 ⟨by rw [v_had, onR_out hx1], rfl⟩
