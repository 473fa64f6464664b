/-! ===== Fair ===== -/
section XL
variable {p : Program} {l : Launch} {e : Env} {R : Room} {s : State} {m : MethodId} {args : Array Value} {below : List Frame} {meth : Method} {c : Code} {H : Heap} {locs : List Loc} {cells slots : Nat} {Q : State → Prop}
variable {cc : ByteArray} {pc : Nat} {ls : Array Slot} {rest : List Value}
theorem xlmul (hexec : p.tables.exec = Jvm.exec) (hb : c.code = cc) {x y : Nat} (hdg : decode cc pc = .ok (.lmul, 1)) (k : W p l e R s m args below meth c H locs cells slots Q (F0 m (pc + 1) ls (.long (lN (x * y)) :: rest))) : W p l e R s m args below meth c H locs cells slots Q (F0 m pc ls (.long (lN y) :: .long (lN x) :: rest)) := lv_lmul hexec hb hdg (by rw [lN_mul]; exact k)
theorem xladd (hexec : p.tables.exec = Jvm.exec) (hb : c.code = cc) {x y : Nat} (hdg : decode cc pc = .ok (.ladd, 1)) (k : W p l e R s m args below meth c H locs cells slots Q (F0 m (pc + 1) ls (.long (lN (x + y)) :: rest))) : W p l e R s m args below meth c H locs cells slots Q (F0 m pc ls (.long (lN y) :: .long (lN x) :: rest)) := lv_ladd hexec hb hdg (by rw [lN_add]; exact k)
theorem lN_ne0 {y : Nat} (h0 : 0 < y) (h : y < 2 ^ 63) : ¬ lN y = 0 := fun e => by
  have h1 := pk_lT h
  rw [e] at h1
  have h2 : (0 : Int64).toInt = 0 := by decide
  rw [h2] at h1
  omega
theorem xlrem (hexec : p.tables.exec = Jvm.exec) (hb : c.code = cc) {x y : Nat} (hdg : decode cc pc = .ok (.lrem, 1)) (hx : x < 2 ^ 63) (hy0 : 0 < y) (hy : y < 2 ^ 63) (k : W p l e R s m args below meth c H locs cells slots Q (F0 m (pc + 1) ls (.long (lN (x % y)) :: rest))) : W p l e R s m args below meth c H locs cells slots Q (F0 m pc ls (.long (lN y) :: .long (lN x) :: rest)) := lv_lrem hexec hb hdg (lN_ne0 hy0 hy) (by rw [pk_lRem hx hy0 hy]; exact k)
theorem xldiv (hexec : p.tables.exec = Jvm.exec) (hb : c.code = cc) {x y : Nat} (hdg : decode cc pc = .ok (.ldiv, 1)) (hx : x < 2 ^ 63) (hy0 : 0 < y) (hy : y < 2 ^ 63) (k : W p l e R s m args below meth c H locs cells slots Q (F0 m (pc + 1) ls (.long (lN (x / y)) :: rest))) : W p l e R s m args below meth c H locs cells slots Q (F0 m pc ls (.long (lN y) :: .long (lN x) :: rest)) := lv_ldiv hexec hb hdg (lN_ne0 hy0 hy) (by rw [pk_lDiv hx hy0 hy]; exact k)
theorem xl2i (hexec : p.tables.exec = Jvm.exec) (hb : c.code = cc) {x : Nat} (hdg : decode cc pc = .ok (.l2i, 1)) (k : W p l e R s m args below meth c H locs cells slots Q (F0 m (pc + 1) ls (.int (nI x) :: rest))) : W p l e R s m args below meth c H locs cells slots Q (F0 m pc ls (.long (lN x) :: rest)) := lv_l2i hexec hb hdg (lN_i x) k
end XL
def nxs (sd : Nat) : Nat := (1103515245 * sd + 12345) % 2147483648
theorem nxs_lt (sd : Nat) : nxs sd < 2147483648 := Nat.mod_lt _ (by omega)
def drw (sd d : Nat) : Nat := sd / 65536 % d
theorem drw_lt {sd d : Nat} (h : 0 < d) : drw sd d < d := Nat.mod_lt _ h
/-- seed, pens, how often nobody, what is owed -/
abbrev FS : Type := Nat × (Nat → List Nat) × Nat × Nat
def fPen (P : PK) (F : FS) : Nat := drw (nxs F.1) P.length
def fTo (P : PK) (F : FS) : Nat := drw (nxs (nxs F.1)) P.length
def fDebt (F : FS) : Nat := 1 + drw (nxs (nxs (nxs F.1))) 9
def fHist (P : PK) (F : FS) : List Nat := if mayL P (F.2.1 (fPen P F)) (fTo P F) = true then fTo P F :: F.2.1 (fPen P F) else F.2.1 (fPen P F)
def fstep (P : PK) (lim : Nat) (F : FS) : FS := (nxs (nxs (nxs F.1)), va_up F.2.1 (fPen P F) (fHist P F), F.2.2.1 + (if bnd P lim (fHist P F) = 0 then 1 else 0), F.2.2.2 + (if (bnd P lim (fHist P F)).testBit 0 = true then 60 * fDebt F / pcN (bnd P lim (fHist P F)) else 0))
def fgo (P : PK) (lim : Nat) (F : FS) : Nat → FS
  | 0 => F
  | n + 1 => fstep P lim (fgo P lim F n)
def RFair (G : XG) (w : Wd) (f0 : Nat) (ds : List (Nat × Nat)) (hd : List (Nat × Bool)) (F : FS) : Prop := w f0 = some (eO 4 [.ref (f0 + 1), .int (nI F.1), .int (nI F.2.2.1), .int (nI F.2.2.2)]) ∧ RBooks G w (f0 + 1) F.2.1 ds hd ∧ F.1 < 2147483648
theorem RFair.out {G : XG} {w w1 : Wd} {f0 lo hi : Nat} {ds : List (Nat × Nat)} {hd : List (Nat × Bool)} {F : FS} (hF : RFair G w f0 ds hd F) (ho : Out w w1 lo hi) (hd0 : f0 + 15 ≤ lo ∨ hi ≤ f0) : RFair G w1 f0 ds hd F := ⟨(ho _ (by omega)).trans hF.1, hF.2.1.out ho (by omega), hF.2.2⟩
theorem RFair.put {G : XG} {w : Wd} {f0 : Nat} {ds : List (Nat × Nat)} {hd : List (Nat × Bool)} {F : FS} {a b c : Nat} (hF : RFair G w f0 ds hd F) (ha : a < 2147483648) : RFair G (wu w f0 (eO 4 [.ref (f0 + 1), .int (nI a), .int (nI b), .int (nI c)])) f0 ds hd (a, F.2.1, b, c) := ⟨wu_eq _ _ _, hF.2.1.out (Out.rf.wu (lo := f0) (hi := f0 + 1) (Nat.le_refl _) (by omega)) (by omega), ha⟩
theorem fHist_all {P : PK} {F : FS} (hn : 0 < P.length) (hall : ∀ i, i < P.length → ∀ x ∈ F.2.1 i, x < P.length) : ∀ x ∈ fHist P F, x < P.length := by
  unfold fHist
  split
  · exact hall_cons (hall _ (drw_lt hn)) (drw_lt hn)
  · exact hall _ (drw_lt hn)
theorem fstep_all {P : PK} {lim : Nat} {F : FS} (hn : 0 < P.length) (hall : ∀ i, i < P.length → ∀ x ∈ F.2.1 i, x < P.length) : ∀ i, i < P.length → ∀ x ∈ (fstep P lim F).2.1 i, x < P.length := by
  intro i hi
  show ∀ x ∈ va_up F.2.1 (fPen P F) (fHist P F) i, x < P.length
  unfold va_up
  split
  · exact fHist_all hn hall
  · exact hall i hi
theorem fgo_all {P : PK} {lim : Nat} {F : FS} (hn : 0 < P.length) (hall : ∀ i, i < P.length → ∀ x ∈ F.2.1 i, x < P.length) : ∀ n, ∀ i, i < P.length → ∀ x ∈ (fgo P lim F n).2.1 i, x < P.length
  | 0 => hall
  | n + 1 => fstep_all hn (fgo_all hn hall n)
theorem vup_eq {α : Type} (f : Nat → α) (k : Nat) (v : α) : va_up f k v k = v := if_pos rfl
theorem vup_ne {α : Type} (f : Nat → α) {k j : Nat} (v : α) (h : j ≠ k) : va_up f k v j = f j := if_neg h
theorem vup_self {α : Type} (f : Nat → α) (k j : Nat) : va_up f k (f k) j = f j := by
  by_cases h : j = k
  · subst h; exact vup_eq f j _
  · exact vup_ne f _ h
set_option maxHeartbeats 4000000 in
set_option maxRecDepth 100000 in
theorem kX4_seed (l : Launch) (N0 : Nat) (G : XG) (w : Wd) (f0 : Nat) (ds : List (Nat × Nat)) (hd : List (Nat × Bool)) (F : FS) (hF : RFair G w f0 ds hd F) : XM l yX4_seed wsX4_seed (rmD 1) N0 G [.ref f0] w vI (fun r w1 => nI F.1 = r ∧ w = w1) 0 0 := by
  refine XM.of (cc := cX4_seed) (maxL := 1) (ret := (some .int)) (by decide) rfl (Nat.le_of_ble_eq_true rfl) ?_
  intro p e s m below meth c hx hb hr hlk hin0 hml hown hts hN hw hG hS ls hl
  have hown : s.vm.findClass RX4 = some m.cls := hown
  have hiX4 : ∀ x ∈ u_ws RX4 TX4 4, x ∈ wsX4_seed := by decide +kernel
  have hlnk0 := hts (.fieldLink RX4 18 "LentQuill$Fair" "seed" "I") (by decide +kernel)
  have hl : lh ls 1 [some (.ref f0)] := hl
  obtain ⟨hf0, hfB, hsd⟩ := id hF
  refine xaload_n hx hb dX4_seed_0 hl rfl ?_
  refine xget (C := RX4) (T := TX4) (N := 4) hx hb (ci := 4) hts hiX4 hown hG hw (by repeat first | assumption | exact wu_eq _ _ _ | refine wu_ne (by omega) ?_) rfl 1 (by decide) hlnk0 (fun _ h9 => h9) rfl dX4_seed_1 ?_
  exact xiret hx hb hr hlk hw hS dX4_seed_4 ⟨rfl, rfl⟩
set_option maxHeartbeats 4000000 in
set_option maxRecDepth 100000 in
theorem kX4_unsigned (l : Launch) (N0 : Nat) (G : XG) (w : Wd) (f0 : Nat) (ds : List (Nat × Nat)) (hd : List (Nat × Bool)) (F : FS) (hF : RFair G w f0 ds hd F) : XM l yX4_unsigned wsX4_unsigned (rmD 1) N0 G [.ref f0] w vI (fun r w1 => nI F.2.2.1 = r ∧ w = w1) 0 0 := by
  refine XM.of (cc := cX4_unsigned) (maxL := 1) (ret := (some .int)) (by decide) rfl (Nat.le_of_ble_eq_true rfl) ?_
  intro p e s m below meth c hx hb hr hlk hin0 hml hown hts hN hw hG hS ls hl
  have hown : s.vm.findClass RX4 = some m.cls := hown
  have hiX4 : ∀ x ∈ u_ws RX4 TX4 4, x ∈ wsX4_unsigned := by decide +kernel
  have hlnk0 := hts (.fieldLink RX4 22 "LentQuill$Fair" "unsigned" "I") (by decide +kernel)
  have hl : lh ls 1 [some (.ref f0)] := hl
  obtain ⟨hf0, hfB, hsd⟩ := id hF
  refine xaload_n hx hb dX4_unsigned_0 hl rfl ?_
  refine xget (C := RX4) (T := TX4) (N := 4) hx hb (ci := 4) hts hiX4 hown hG hw (by repeat first | assumption | exact wu_eq _ _ _ | refine wu_ne (by omega) ?_) rfl 2 (by decide) hlnk0 (fun _ h9 => h9) rfl dX4_unsigned_1 ?_
  exact xiret hx hb hr hlk hw hS dX4_unsigned_4 ⟨rfl, rfl⟩
set_option maxHeartbeats 4000000 in
set_option maxRecDepth 100000 in
theorem kX4_partsOwed (l : Launch) (N0 : Nat) (G : XG) (w : Wd) (f0 : Nat) (ds : List (Nat × Nat)) (hd : List (Nat × Bool)) (F : FS) (hF : RFair G w f0 ds hd F) : XM l yX4_partsOwed wsX4_partsOwed (rmD 1) N0 G [.ref f0] w vI (fun r w1 => nI F.2.2.2 = r ∧ w = w1) 0 0 := by
  refine XM.of (cc := cX4_partsOwed) (maxL := 1) (ret := (some .int)) (by decide) rfl (Nat.le_of_ble_eq_true rfl) ?_
  intro p e s m below meth c hx hb hr hlk hin0 hml hown hts hN hw hG hS ls hl
  have hown : s.vm.findClass RX4 = some m.cls := hown
  have hiX4 : ∀ x ∈ u_ws RX4 TX4 4, x ∈ wsX4_partsOwed := by decide +kernel
  have hlnk0 := hts (.fieldLink RX4 25 "LentQuill$Fair" "partsOwed" "I") (by decide +kernel)
  have hl : lh ls 1 [some (.ref f0)] := hl
  obtain ⟨hf0, hfB, hsd⟩ := id hF
  refine xaload_n hx hb dX4_partsOwed_0 hl rfl ?_
  refine xget (C := RX4) (T := TX4) (N := 4) hx hb (ci := 4) hts hiX4 hown hG hw (by repeat first | assumption | exact wu_eq _ _ _ | refine wu_ne (by omega) ?_) rfl 3 (by decide) hlnk0 (fun _ h9 => h9) rfl dX4_partsOwed_1 ?_
  exact xiret hx hb hr hlk hw hS dX4_partsOwed_4 ⟨rfl, rfl⟩
set_option maxHeartbeats 4000000 in
set_option maxRecDepth 100000 in
theorem kX4_open (l : Launch) (N0 : Nat) (G : XG) (w : Wd) (f0 : Nat) (ds : List (Nat × Nat)) (hd : List (Nat × Bool)) (F : FS) (hF : RFair G w f0 ds hd F) (b0 : Nat) (pn2 : Nat → List Nat) (ds2 : List (Nat × Nat)) (hd2 : List (Nat × Bool)) (hB2 : RBooks G w b0 pn2 ds2 hd2) (hne : f0 + 15 ≤ b0 ∨ b0 + 14 ≤ f0) (sd : Nat) (hsd2 : sd < 2147483648) : XM l yX4_open wsX4_open (rmD 3) N0 G [.ref f0, .ref b0, .int (nI sd)] w vV (fun _ w1 => RFair G w1 f0 ds2 hd2 (sd, pn2, 0, 0) ∧ Out w w1 f0 (f0 + 15)) 0 0 := by
  refine XM.of (cc := cX4_open) (maxL := 3) (ret := none) (by decide) rfl (Nat.le_of_ble_eq_true rfl) ?_
  intro p e s m below meth c hx hb hr hlk hin0 hml hown hts hN hw hG hS ls hl
  have hown : s.vm.findClass RX4 = some m.cls := hown
  have hiX4 : ∀ x ∈ u_ws RX4 TX4 4, x ∈ wsX4_open := by decide +kernel
  have hlnk0 := hts (.fieldLink RX4 12 "LentQuill$Fair" "trial" "LLentQuill$Books;") (by decide +kernel)
  have hlnk1 := hts (.fieldLink RX4 18 "LentQuill$Fair" "seed" "I") (by decide +kernel)
  have hlnk2 := hts (.fieldLink RX4 22 "LentQuill$Fair" "unsigned" "I") (by decide +kernel)
  have hlnk3 := hts (.fieldLink RX4 25 "LentQuill$Fair" "partsOwed" "I") (by decide +kernel)
  have hl : lh ls 3 [some (.ref f0), some (.ref b0), some (.int (nI sd))] := hl
  obtain ⟨hf0, hfB, hsd⟩ := id hF
  obtain ⟨gq, fdq, fbq, hbq, -⟩ := id hfB
  refine xaload_n hx hb dX4_open_0 hl rfl ?_
  refine xget (C := RX4) (T := TX4) (N := 4) hx hb (ci := 4) hts hiX4 hown hG hw (by repeat first | assumption | exact wu_eq _ _ _ | refine wu_ne (by omega) ?_) rfl 0 (by decide) hlnk0 (fun _ h9 => h9) rfl dX4_open_1 ?_
  refine xaload_n hx hb dX4_open_4 hl rfl ?_
  refine xVv ⟨hx, hb, hml, hown, hts⟩ (kX2_copyFrom l N0 G _ _ _ _ _ hfB _ pn2 ds2 hd2 hB2 (by omega)) (cwV 1 hts gX4_open_X2_copyFrom rfl rfl rfl (by decide +kernel) ⟨Nat.le_of_ble_eq_true rfl, Nat.le_of_ble_eq_true rfl⟩) hG hN hw hS (ci := 2) (by repeat first | assumption | exact wu_eq _ _ _ | refine wu_ne (by omega) ?_) rfl rfl hl.1 rfl (Nat.le_of_ble_eq_true rfl) dX4_open_5 ⟨Nat.le_of_ble_eq_true rfl, Nat.le_of_ble_eq_true rfl⟩ (fun r5 w5 H locs hp5 hw hS => ?_)
  obtain ⟨hB5, hO5⟩ := hp5
  have hf5 := hO5.at (by omega) hf0
  refine xaload_n hx hb dX4_open_8 hl rfl ?_
  refine xiload_n hx hb dX4_open_9 hl rfl ?_
  refine xput (C := RX4) (T := TX4) (N := 4) hx hb (ci := 4) (ty := .int) hts hiX4 tyX4 tyX4_ok nmX4 hown hG hw hS (by repeat first | assumption | exact wu_eq _ _ _ | refine wu_ne (by omega) ?_) rfl 1 (by decide) hlnk1 (fun _ h9 => h9) rfl (by decide +kernel) rfl rfl (Nat.le_of_ble_eq_true rfl) dX4_open_10 (fun H locs hzz hw hS => ?_)
  refine xaload_n hx hb dX4_open_13 hl rfl ?_
  refine lv_iconst (v := nI 0) hx hb dX4_open_14 (by decide) ?_
  refine xput (C := RX4) (T := TX4) (N := 4) hx hb (ci := 4) (ty := .int) hts hiX4 tyX4 tyX4_ok nmX4 hown hG hw hS (by repeat first | assumption | exact wu_eq _ _ _ | refine wu_ne (by omega) ?_) rfl 2 (by decide) hlnk2 (fun _ h9 => h9) rfl (by decide +kernel) rfl rfl (Nat.le_of_ble_eq_true rfl) dX4_open_15 (fun H locs hzz hw hS => ?_)
  refine xaload_n hx hb dX4_open_18 hl rfl ?_
  refine lv_iconst (v := nI 0) hx hb dX4_open_19 (by decide) ?_
  refine xput (C := RX4) (T := TX4) (N := 4) hx hb (ci := 4) (ty := .int) hts hiX4 tyX4 tyX4_ok nmX4 hown hG hw hS (by repeat first | assumption | exact wu_eq _ _ _ | refine wu_ne (by omega) ?_) rfl 3 (by decide) hlnk3 (fun _ h9 => h9) rfl (by decide +kernel) rfl rfl (Nat.le_of_ble_eq_true rfl) dX4_open_20 (fun H locs hzz hw hS => ?_)
  exact xvret hx hb hr hlk hw hS dX4_open_23 ⟨⟨wu_eq _ _ _, hB5.out (((Out.rf.wu (lo := f0) (hi := f0 + 1) (Nat.le_refl _) (by omega)).wu (Nat.le_refl _) (by omega)).wu (Nat.le_refl _) (by omega)) (by omega), hsd2⟩, (((hO5.mono (by omega) (by omega)).wu (by omega) (by omega)).wu (by omega) (by omega)).wu (by omega) (by omega)⟩
set_option maxHeartbeats 4000000 in
set_option maxRecDepth 100000 in
theorem kX4_draw (l : Launch) (N0 : Nat) (G : XG) (w : Wd) (f0 : Nat) (ds : List (Nat × Nat)) (hd : List (Nat × Bool)) (F : FS) (hF : RFair G w f0 ds hd F) (d : Nat) (hd1 : 1 ≤ d) (hd9 : d ≤ 9) : XM l yX4_draw wsX4_draw (rmD 1) N0 G [.ref f0, .int (nI d)] w vI (fun r w1 => nI (drw (nxs F.1) d) = r ∧ RFair G w1 f0 ds hd (nxs F.1, F.2) ∧ Out w w1 f0 (f0 + 1)) 0 0 := by
  refine XM.of (cc := cX4_draw) (maxL := 2) (ret := (some .int)) (by decide) rfl (Nat.le_of_ble_eq_true rfl) ?_
  intro p e s m below meth c hx hb hr hlk hin0 hml hown hts hN hw hG hS ls hl
  have hown : s.vm.findClass RX4 = some m.cls := hown
  have hiX4 : ∀ x ∈ u_ws RX4 TX4 4, x ∈ wsX4_draw := by decide +kernel
  have hlnk0 := hts (.constantLong RX4 68 (1103515245)) (by decide +kernel)
  have hlnk1 := hts (.fieldLink RX4 18 "LentQuill$Fair" "seed" "I") (by decide +kernel)
  have hlnk2 := hts (.constantLong RX4 70 (12345)) (by decide +kernel)
  have hlnk3 := hts (.constantLong RX4 72 (2147483648)) (by decide +kernel)
  have hlnk4 := hts (.constant RX4 74 (65536)) (by decide +kernel)
  have hl : lh ls 2 [some (.ref f0), some (.int (nI d))] := hl
  obtain ⟨hf0, hfB, hsd⟩ := id hF
  refine xaload_n hx hb dX4_draw_0 hl rfl ?_
  refine lv_ldc2 hx hb hown hlnk0 dX4_draw_1 ?_
  refine xtopl (y := lN 1103515245) (by decide) ?_
  refine xaload_n hx hb dX4_draw_4 hl rfl ?_
  refine xget (C := RX4) (T := TX4) (N := 4) hx hb (ci := 4) hts hiX4 hown hG hw (by repeat first | assumption | exact wu_eq _ _ _ | refine wu_ne (by omega) ?_) rfl 1 (by decide) hlnk1 (fun _ h9 => h9) rfl dX4_draw_5 ?_
  first | refine xi2l hx hb dX4_draw_8 (by omega) ?_ | refine lv_i2l hx hb dX4_draw_8 rfl ?_
  first | refine xlmul hx hb dX4_draw_9 ?_ | refine lv_lmul hx hb dX4_draw_9 ?_
  refine lv_ldc2 hx hb hown hlnk2 dX4_draw_10 ?_
  refine xtopl (y := lN 12345) (by decide) ?_
  first | refine xladd hx hb dX4_draw_13 ?_ | refine lv_ladd hx hb dX4_draw_13 ?_
  refine lv_ldc2 hx hb hown hlnk3 dX4_draw_14 ?_
  refine xtopl (y := lN 2147483648) (by decide) ?_
  refine xlrem hx hb dX4_draw_17 (by omega) (by omega) (by omega) ?_
  first | refine xl2i hx hb dX4_draw_18 ?_ | refine lv_l2i hx hb dX4_draw_18 rfl ?_
  refine xput (C := RX4) (T := TX4) (N := 4) hx hb (ci := 4) (ty := .int) hts hiX4 tyX4 tyX4_ok nmX4 hown hG hw hS (by repeat first | assumption | exact wu_eq _ _ _ | refine wu_ne (by omega) ?_) rfl 1 (by decide) hlnk1 (fun _ h9 => h9) rfl (by decide +kernel) rfl rfl (Nat.le_of_ble_eq_true rfl) dX4_draw_19 (fun H locs hzz hw hS => ?_)
  refine xiload_n hx hb dX4_draw_22 hl rfl ?_
  refine lv_iconst (v := nI 1) hx hb dX4_draw_23 (by decide) ?_
  first | refine xcmp_ge (tgt := 31) hx hb dX4_draw_24 (by decide) (by omega) (by omega) (fun c24 => ?_) (fun c24 => ?_) | refine lv_icmp_ge (tgt := 31) hx hb dX4_draw_24 (by decide) (fun c24 => ?_) (fun c24 => ?_)
  · skip
    refine xaload_n hx hb dX4_draw_31 hl rfl ?_
    refine xget (C := RX4) (T := TX4) (N := 4) hx hb (ci := 4) hts hiX4 hown hG hw (by repeat first | assumption | exact wu_eq _ _ _ | refine wu_ne (by omega) ?_) rfl 1 (by decide) hlnk1 (fun _ h9 => h9) rfl dX4_draw_32 ?_
    refine lv_ldc hx hb hown hlnk4 dX4_draw_35 ?_
    refine xtop (y := nI 65536) (by decide) ?_
    refine xdiv hx hb dX4_draw_37 (by omega) (by omega) (by omega) ?_
    refine xiload_n hx hb dX4_draw_38 hl rfl ?_
    refine xrem hx hb dX4_draw_39 (by omega) (by omega) (by omega) ?_
    exact xiret hx hb hr hlk hw hS dX4_draw_40 ⟨rfl, hF.put (nxs_lt _), Out.rf.wu (Nat.le_refl _) (by omega)⟩
  · skip
    exfalso
    omega
set_option maxHeartbeats 4000000 in
set_option maxRecDepth 100000 in
theorem kX4_holdOne (l : Launch) (N0 : Nat) (G : XG) (w : Wd) (f0 : Nat) (ds : List (Nat × Nat)) (hd : List (Nat × Bool)) (F : FS) (hF : RFair G w f0 ds hd F) (t0 Z : Nat) (P : PK) (lim : Nat) (ht : RTown G w t0 Z P lim) (hsep : (t0 + 2 ≤ f0 ∨ f0 + 15 ≤ t0) ∧ f0 + 15 ≤ Z) (hn1 : 1 ≤ P.length) (hall : ∀ i, i < P.length → ∀ x ∈ F.2.1 i, x < P.length) : XM l yX4_holdOne wsX4_holdOne (rmD 5) N0 G [.ref f0, .ref t0] w vV (fun _ w1 => RFair G w1 f0 ds hd (fstep P lim F) ∧ Out w w1 f0 (f0 + 15)) 0 0 := by
  refine XM.of (cc := cX4_holdOne) (maxL := 6) (ret := none) (by decide) rfl (Nat.le_of_ble_eq_true rfl) ?_
  intro p e s m below meth c hx hb hr hlk hin0 hml hown hts hN hw hG hS ls hl
  have hown : s.vm.findClass RX4 = some m.cls := hown
  have hiX4 : ∀ x ∈ u_ws RX4 TX4 4, x ∈ wsX4_holdOne := by decide +kernel
  have hlnk0 := hts (.fieldLink RX4 12 "LentQuill$Fair" "trial" "LLentQuill$Books;") (by decide +kernel)
  have hlnk1 := hts (.initialized RX11) (by decide +kernel)
  have hlnk2 := hts (.static yX11_holds) (by decide +kernel)
  have hlnk3 := hts (.fieldLink RX4 25 "LentQuill$Fair" "partsOwed" "I") (by decide +kernel)
  have hlnk4 := hts (.static yX11_shareOf) (by decide +kernel)
  have hlnk5 := hts (.fieldLink RX4 22 "LentQuill$Fair" "unsigned" "I") (by decide +kernel)
  have hl : lh ls 6 [some (.ref f0), some (.ref t0), none, none, none, none] := hl
  obtain ⟨hf0, hfB, hsd⟩ := id hF
  obtain ⟨h5, -⟩ := ht.five
  have htc := ht.cell
  have hi0 : fPen P F < P.length := drw_lt (by omega)
  have hj0 : fTo P F < P.length := drw_lt (by omega)
  have hq9 : drw (nxs (nxs (nxs F.1))) 9 < 9 := drw_lt (by omega)
  refine xaload_n hx hb dX4_holdOne_0 hl rfl ?_
  refine xget (C := RX4) (T := TX4) (N := 4) hx hb (ci := 4) hts hiX4 hown hG hw (by repeat first | assumption | exact wu_eq _ _ _ | refine wu_ne (by omega) ?_) rfl 0 (by decide) hlnk0 (fun _ h9 => h9) rfl dX4_holdOne_1 ?_
  refine xaload_n hx hb dX4_holdOne_4 hl rfl ?_
  refine xaload_n hx hb dX4_holdOne_5 hl rfl ?_
  refine xVi ⟨hx, hb, hml, hown, hts⟩ (kX10_size l N0 G _ _ Z P lim ht) (cwV 0 hts gX4_holdOne_X10_size rfl rfl rfl (by decide +kernel) ⟨Nat.le_of_ble_eq_true rfl, Nat.le_of_ble_eq_true rfl⟩) hG hN hw hS (ci := 10) (by repeat first | assumption | exact wu_eq _ _ _ | refine wu_ne (by omega) ?_) rfl rfl hl.1 rfl (Nat.le_of_ble_eq_true rfl) dX4_holdOne_6 ⟨Nat.le_of_ble_eq_true rfl, Nat.le_of_ble_eq_true rfl⟩ (fun r6 w6 H locs hp6 hw hS => ?_)
  obtain ⟨rfl, rfl⟩ := hp6
  refine xVi ⟨hx, hb, hml, hown, hts⟩ (kX4_draw l N0 G _ _ ds hd F hF _ hn1 (by omega)) (cwV 1 hts gX4_holdOne_X4_draw rfl rfl rfl (by decide +kernel) ⟨Nat.le_of_ble_eq_true rfl, Nat.le_of_ble_eq_true rfl⟩) hG hN hw hS (ci := 4) (by repeat first | assumption | exact wu_eq _ _ _ | refine wu_ne (by omega) ?_) rfl rfl hl.1 rfl (Nat.le_of_ble_eq_true rfl) dX4_holdOne_9 ⟨Nat.le_of_ble_eq_true rfl, Nat.le_of_ble_eq_true rfl⟩ (fun r9 w9 H locs hp9 hw hS => ?_)
  obtain ⟨rfl, hF1, hO1⟩ := hp9
  have ht1 := ht.out hO1 (by omega) (by omega)
  have htc1 := ht1.cell
  have hfc1 := hF1.1
  obtain ⟨gq, fdq, fbq, hbq1, -⟩ := id hF1.2.1
  refine xVr ⟨hx, hb, hml, hown, hts⟩ (kX2_pen l N0 G _ _ _ _ _ hF1.2.1 (fPen P F) (by omega)) (cwV 1 hts gX4_holdOne_X2_pen rfl rfl rfl (by decide +kernel) ⟨Nat.le_of_ble_eq_true rfl, Nat.le_of_ble_eq_true rfl⟩) hG hN hw hS (ci := 2) (by repeat first | assumption | exact wu_eq _ _ _ | refine wu_ne (by omega) ?_) rfl rfl hl.1 rfl (Nat.le_of_ble_eq_true rfl) dX4_holdOne_12 ⟨Nat.le_of_ble_eq_true rfl, Nat.le_of_ble_eq_true rfl⟩ (fun r12 w12 H locs hp12 hw hS => ?_)
  obtain ⟨rfl, rfl⟩ := hp12
  refine xrf rfl ?_
  first | refine xastore_n hx hb dX4_holdOne_15 hl (by decide) rfl (fun ls hl => ?_) | refine xastore_nN hx hb dX4_holdOne_15 hl (by decide) rfl (fun ls hl => ?_)
  refine xaload_n hx hb dX4_holdOne_16 hl rfl ?_
  refine xaload_n hx hb dX4_holdOne_17 hl rfl ?_
  refine xVi ⟨hx, hb, hml, hown, hts⟩ (kX10_size l N0 G _ _ Z P lim ht1) (cwV 0 hts gX4_holdOne_X10_size rfl rfl rfl (by decide +kernel) ⟨Nat.le_of_ble_eq_true rfl, Nat.le_of_ble_eq_true rfl⟩) hG hN hw hS (ci := 10) (by repeat first | assumption | exact wu_eq _ _ _ | refine wu_ne (by omega) ?_) rfl rfl hl.1 rfl (Nat.le_of_ble_eq_true rfl) dX4_holdOne_18 ⟨Nat.le_of_ble_eq_true rfl, Nat.le_of_ble_eq_true rfl⟩ (fun r18 w18 H locs hp18 hw hS => ?_)
  obtain ⟨rfl, rfl⟩ := hp18
  refine xVi ⟨hx, hb, hml, hown, hts⟩ (kX4_draw l N0 G _ _ ds hd _ hF1 _ hn1 (by omega)) (cwV 1 hts gX4_holdOne_X4_draw rfl rfl rfl (by decide +kernel) ⟨Nat.le_of_ble_eq_true rfl, Nat.le_of_ble_eq_true rfl⟩) hG hN hw hS (ci := 4) (by repeat first | assumption | exact wu_eq _ _ _ | refine wu_ne (by omega) ?_) rfl rfl hl.1 rfl (Nat.le_of_ble_eq_true rfl) dX4_holdOne_21 ⟨Nat.le_of_ble_eq_true rfl, Nat.le_of_ble_eq_true rfl⟩ (fun r21 w21 H locs hp21 hw hS => ?_)
  obtain ⟨rfl, hF2, hO2⟩ := hp21
  have ht2 := ht1.out hO2 (by omega) (by omega)
  have hfc2 := hF2.1
  refine xistore_n hx hb dX4_holdOne_24 hl (by decide) rfl (fun ls hl => ?_)
  refine lv_iconst (v := nI 1) hx hb dX4_holdOne_25 (by decide) ?_
  refine xaload_n hx hb dX4_holdOne_26 hl rfl ?_
  refine lv_bipush (v := nI 9) hx hb dX4_holdOne_27 (by decide) ?_
  refine xVi ⟨hx, hb, hml, hown, hts⟩ (kX4_draw l N0 G _ _ ds hd _ hF2 9 (by omega) (by omega)) (cwV 1 hts gX4_holdOne_X4_draw rfl rfl rfl (by decide +kernel) ⟨Nat.le_of_ble_eq_true rfl, Nat.le_of_ble_eq_true rfl⟩) hG hN hw hS (ci := 4) (by repeat first | assumption | exact wu_eq _ _ _ | refine wu_ne (by omega) ?_) rfl rfl hl.1 rfl (Nat.le_of_ble_eq_true rfl) dX4_holdOne_29 ⟨Nat.le_of_ble_eq_true rfl, Nat.le_of_ble_eq_true rfl⟩ (fun r29 w29 H locs hp29 hw hS => ?_)
  obtain ⟨rfl, hF3, hO3⟩ := hp29
  have ht3 := ht2.out hO3 (by omega) (by omega)
  have htc3 := ht3.cell
  have hO3a := ((hO1.mono (lo := f0) (hi := f0 + 15) (by omega) (by omega)).tr hO2 (by omega) (by omega)).tr hO3 (by omega) (by omega)
  obtain ⟨gr, fdr, fbr, hbr0, hbr1, hbr2, hbr3, -, -, -, -, -, -, hpn⟩ := id hF3.2.1
  have hpi := hpn (fPen P F) (by omega)
  obtain ⟨hl0, hl41⟩ := hpi.len
  have hal := hall (fPen P F) hi0
  have hpc := hpi.cell
  first | refine xadd hx hb dX4_holdOne_32 ?_ | refine lv_iadd hx hb dX4_holdOne_32 ?_
  refine xistore hx hb dX4_holdOne_33 hl (by decide) rfl (fun ls hl => ?_)
  refine xaload_n hx hb dX4_holdOne_35 hl rfl ?_
  refine lv_ifnonnull (tgt := 40) hx hb dX4_holdOne_36 (by decide) ?_
  refine xaload_n hx hb dX4_holdOne_40 hl rfl ?_
  refine xaload_n hx hb dX4_holdOne_41 hl rfl ?_
  refine xiload_n hx hb dX4_holdOne_42 hl rfl ?_
  refine xVi ⟨hx, hb, hml, hown, hts⟩ (kX10_canBeLent l N0 G _ _ Z P lim ht3 _ _ hpi hal (fTo P F) hj0) (cwV 2 hts gX4_holdOne_X10_canBeLent rfl rfl rfl (by decide +kernel) ⟨Nat.le_of_ble_eq_true rfl, Nat.le_of_ble_eq_true rfl⟩) hG hN hw hS (ci := 10) (by repeat first | assumption | exact wu_eq _ _ _ | refine wu_ne (by omega) ?_) rfl rfl hl.1 rfl (Nat.le_of_ble_eq_true rfl) dX4_holdOne_43 ⟨Nat.le_of_ble_eq_true rfl, Nat.le_of_ble_eq_true rfl⟩ (fun r43 w43 H locs hp43 hw hS => ?_)
  obtain ⟨rfl, rfl⟩ := hp43
  first | refine xifb_eq (tgt := 54) hx hb dX4_holdOne_46 (by decide) (fun c46 => ?_) (fun c46 => ?_) | refine xif_eq (tgt := 54) hx hb dX4_holdOne_46 (by decide) (by omega) (fun c46 => ?_) (fun c46 => ?_) | refine lv_if_eq (tgt := 54) hx hb dX4_holdOne_46 (by decide) (fun c46 => ?_) (fun c46 => ?_)
  · skip
    refine xaload_n hx hb dX4_holdOne_54 hl rfl ?_
    refine xaload_n hx hb dX4_holdOne_55 hl rfl ?_
    obtain ⟨w4, hw4, ht4, hF4, hO4a, hpi4⟩ : ∃ w4, PW N0 G w4 H ∧ RTown G w4 t0 Z P lim ∧ RFair G w4 f0 ds hd (nxs (nxs (nxs F.1)), va_up F.2.1 (fPen P F) (fHist P F), F.2.2) ∧ Out w w4 f0 (f0 + 15) ∧ RPen G w4 (f0 + 1 + 4 + 2 * fPen P F) (fHist P F) := by
      first
        | (have e9 : fHist P F = fTo P F :: F.2.1 (fPen P F) := if_pos c46
           rw [e9]; exact ⟨_, hw, ht3.out hO4 (by omega) (by omega), ⟨hO4.at (by omega) hF3.1, hF3.2.1.pens (i := fPen P F) (by omega) (by show RPen G _ _ (va_up F.2.1 (fPen P F) _ (fPen P F)); rw [vup_eq]; exact hp4) hO4 (fun j _ hne => vup_ne _ _ hne), hF3.2.2⟩, hO3a.tr hO4 (by omega) (by omega), hp4⟩)
        | (have e9 : fHist P F = F.2.1 (fPen P F) := if_neg (fun z => absurd (z.symm.trans c46) (by decide))
           rw [e9]; exact ⟨_, hw, ht3, ⟨hF3.1, hF3.2.1.eqp (fun j _ => vup_self _ _ _), hF3.2.2⟩, hO3a, hpi⟩)
    replace hw := hw4
    have htc4 := ht4.cell
    have hal4 := fHist_all (F := F) (by omega) hall
    have hb32 := bnd32 (lim := lim) hal4 h5
    have hfc4 := hF4.1
    refine xVi ⟨hx, hb, hml, hown, hts⟩ (kX10_boundBy l N0 G _ _ Z P lim ht4 _ _ hpi4 hal4) (cwV 1 hts gX4_holdOne_X10_boundBy rfl rfl rfl (by decide +kernel) ⟨Nat.le_of_ble_eq_true rfl, Nat.le_of_ble_eq_true rfl⟩) hG hN hw hS (ci := 10) htc4 rfl rfl hl.1 rfl (Nat.le_of_ble_eq_true rfl) dX4_holdOne_56 ⟨Nat.le_of_ble_eq_true rfl, Nat.le_of_ble_eq_true rfl⟩ (fun r56 w56 H locs hp56 hw hS => ?_)
    obtain ⟨rfl, rfl⟩ := hp56
    refine xistore hx hb dX4_holdOne_59 hl (by decide) rfl (fun ls hl => ?_)
    refine xiload hx hb dX4_holdOne_61 hl rfl ?_
    first | refine xifb_ne (tgt := 79) hx hb dX4_holdOne_63 (by decide) (fun c63 => ?_) (fun c63 => ?_) | refine xif_ne (tgt := 79) hx hb dX4_holdOne_63 (by decide) (by omega) (fun c63 => ?_) (fun c63 => ?_) | refine lv_if_ne (tgt := 79) hx hb dX4_holdOne_63 (by decide) (fun c63 => ?_) (fun c63 => ?_)
    · skip
      refine xiload hx hb dX4_holdOne_79 hl rfl ?_
      refine lv_iconst (v := nI 0) hx hb dX4_holdOne_81 (by decide) ?_
      refine xSNi ⟨hx, hb, hml, hown, hts⟩ (kX11_holds l N0 G _ (bnd P lim (fHist P F)) 0 hb32 (by omega)) ⟨(va_cnB (host := "LentQuill") 2 hts gX4_holdOne_X11_holds_n60 rfl rfl rfl (hG.2.1 (.methodLinkNest RX4 60 yX11_holds "LentQuill") (by decide +kernel)) hlnk1 (by decide +kernel) ⟨Nat.le_of_ble_eq_true rfl, Nat.le_of_ble_eq_true rfl⟩), hlnk2, trivial⟩ hG hN hw hS rfl hl.1 rfl (Nat.le_of_ble_eq_true rfl) dX4_holdOne_82 ⟨Nat.le_of_ble_eq_true rfl, Nat.le_of_ble_eq_true rfl⟩ (fun r82 w82 H locs hp82 hw hS => ?_)
      obtain ⟨rfl, rfl⟩ := hp82
      first | refine xifb_eq (tgt := 104) hx hb dX4_holdOne_85 (by decide) (fun c85 => ?_) (fun c85 => ?_) | refine xif_eq (tgt := 104) hx hb dX4_holdOne_85 (by decide) (by omega) (fun c85 => ?_) (fun c85 => ?_) | refine lv_if_eq (tgt := 104) hx hb dX4_holdOne_85 (by decide) (fun c85 => ?_) (fun c85 => ?_)
      · skip
        exact xvret hx hb hr hlk hw hS dX4_holdOne_104 ⟨by
          have hs : fstep P lim F = _ := rfl
          unfold fstep at hs ⊢
          first
            | (rw [if_pos c63, if_neg (by rw [c63]; simp)]; exact hF4.put (b := F.2.2.1 + 1) (c := F.2.2.2) hF4.2.2)
            | (rw [if_neg c63, if_pos c85]; exact hF4.put hF4.2.2)
            | (rw [if_neg c63, if_neg (by rw [c85]; decide)]; exact hF4), by first | exact hO4a.wu (by omega) (by omega) | exact hO4a⟩
      · skip
        refine xaload_n hx hb dX4_holdOne_88 hl rfl ?_
        refine lv_dup hx hb dX4_holdOne_89 rfl ?_
        refine xget (C := RX4) (T := TX4) (N := 4) hx hb (ci := 4) hts hiX4 hown hG hw (by repeat first | assumption | exact wu_eq _ _ _ | refine wu_ne (by omega) ?_) rfl 3 (by decide) hlnk3 (fun _ h9 => h9) rfl dX4_holdOne_90 ?_
        refine xiload hx hb dX4_holdOne_93 hl rfl ?_
        refine xiload hx hb dX4_holdOne_95 hl rfl ?_
        refine xSNi ⟨hx, hb, hml, hown, hts⟩ (kX11_shareOf l N0 G _ (fDebt F) (bnd P lim (fHist P F)) (by unfold fDebt; omega) hb32 c63) ⟨(va_cnB (host := "LentQuill") 2 hts gX4_holdOne_X11_shareOf_n64 rfl rfl rfl (hG.2.1 (.methodLinkNest RX4 64 yX11_shareOf "LentQuill") (by decide +kernel)) hlnk1 (by decide +kernel) ⟨Nat.le_of_ble_eq_true rfl, Nat.le_of_ble_eq_true rfl⟩), hlnk4, trivial⟩ hG hN hw hS rfl hl.1 rfl (Nat.le_of_ble_eq_true rfl) dX4_holdOne_97 ⟨Nat.le_of_ble_eq_true rfl, Nat.le_of_ble_eq_true rfl⟩ (fun r97 w97 H locs hp97 hw hS => ?_)
        obtain ⟨rfl, rfl⟩ := hp97
        first | refine xadd hx hb dX4_holdOne_100 ?_ | refine lv_iadd hx hb dX4_holdOne_100 ?_
        refine xput (C := RX4) (T := TX4) (N := 4) hx hb (ci := 4) (ty := .int) hts hiX4 tyX4 tyX4_ok nmX4 hown hG hw hS (by repeat first | assumption | exact wu_eq _ _ _ | refine wu_ne (by omega) ?_) rfl 3 (by decide) hlnk3 (fun _ h9 => h9) rfl (by decide +kernel) rfl rfl (Nat.le_of_ble_eq_true rfl) dX4_holdOne_101 (fun H locs hzz hw hS => ?_)
        exact xvret hx hb hr hlk hw hS dX4_holdOne_104 ⟨by
          have hs : fstep P lim F = _ := rfl
          unfold fstep at hs ⊢
          first
            | (rw [if_pos c63, if_neg (by rw [c63]; simp)]; exact hF4.put (b := F.2.2.1 + 1) (c := F.2.2.2) hF4.2.2)
            | (rw [if_neg c63, if_pos c85]; exact hF4.put hF4.2.2)
            | (rw [if_neg c63, if_neg (by rw [c85]; decide)]; exact hF4), by first | exact hO4a.wu (by omega) (by omega) | exact hO4a⟩
    · skip
      refine xaload_n hx hb dX4_holdOne_66 hl rfl ?_
      refine lv_dup hx hb dX4_holdOne_67 rfl ?_
      refine xget (C := RX4) (T := TX4) (N := 4) hx hb (ci := 4) hts hiX4 hown hG hw (by repeat first | assumption | exact wu_eq _ _ _ | refine wu_ne (by omega) ?_) rfl 2 (by decide) hlnk5 (fun _ h9 => h9) rfl dX4_holdOne_68 ?_
      refine lv_iconst (v := nI 1) hx hb dX4_holdOne_71 (by decide) ?_
      first | refine xadd hx hb dX4_holdOne_72 ?_ | refine lv_iadd hx hb dX4_holdOne_72 ?_
      refine xput (C := RX4) (T := TX4) (N := 4) hx hb (ci := 4) (ty := .int) hts hiX4 tyX4 tyX4_ok nmX4 hown hG hw hS (by repeat first | assumption | exact wu_eq _ _ _ | refine wu_ne (by omega) ?_) rfl 2 (by decide) hlnk5 (fun _ h9 => h9) rfl (by decide +kernel) rfl rfl (Nat.le_of_ble_eq_true rfl) dX4_holdOne_73 (fun H locs hzz hw hS => ?_)
      refine lv_goto (tgt := 104) hx hb dX4_holdOne_76 (by decide) ?_
      exact xvret hx hb hr hlk hw hS dX4_holdOne_104 ⟨by
        have hs : fstep P lim F = _ := rfl
        unfold fstep at hs ⊢
        first
          | (rw [if_pos c63, if_neg (by rw [c63]; simp)]; exact hF4.put (b := F.2.2.1 + 1) (c := F.2.2.2) hF4.2.2)
          | (rw [if_neg c63, if_pos c85]; exact hF4.put hF4.2.2)
          | (rw [if_neg c63, if_neg (by rw [c85]; decide)]; exact hF4), by first | exact hO4a.wu (by omega) (by omega) | exact hO4a⟩
  · skip
    refine xaload_n hx hb dX4_holdOne_49 hl rfl ?_
    refine xiload_n hx hb dX4_holdOne_50 hl rfl ?_
    refine xVv ⟨hx, hb, hml, hown, hts⟩ (kX6_passTo l N0 G _ _ _ hpi (fTo P F) (mayL_len c46)) (cwV 1 hts gX4_holdOne_X6_passTo rfl rfl rfl (by decide +kernel) ⟨Nat.le_of_ble_eq_true rfl, Nat.le_of_ble_eq_true rfl⟩) hG hN hw hS (ci := 6) hpi.cell rfl rfl hl.1 rfl (Nat.le_of_ble_eq_true rfl) dX4_holdOne_51 ⟨Nat.le_of_ble_eq_true rfl, Nat.le_of_ble_eq_true rfl⟩ (fun r51 w51 H locs hp51 hw hS => ?_)
    obtain ⟨hp4, hO4⟩ := hp51
    refine xaload_n hx hb dX4_holdOne_54 hl rfl ?_
    refine xaload_n hx hb dX4_holdOne_55 hl rfl ?_
    obtain ⟨w4, hw4, ht4, hF4, hO4a, hpi4⟩ : ∃ w4, PW N0 G w4 H ∧ RTown G w4 t0 Z P lim ∧ RFair G w4 f0 ds hd (nxs (nxs (nxs F.1)), va_up F.2.1 (fPen P F) (fHist P F), F.2.2) ∧ Out w w4 f0 (f0 + 15) ∧ RPen G w4 (f0 + 1 + 4 + 2 * fPen P F) (fHist P F) := by
      first
        | (have e9 : fHist P F = fTo P F :: F.2.1 (fPen P F) := if_pos c46
           rw [e9]; exact ⟨_, hw, ht3.out hO4 (by omega) (by omega), ⟨hO4.at (by omega) hF3.1, hF3.2.1.pens (i := fPen P F) (by omega) (by show RPen G _ _ (va_up F.2.1 (fPen P F) _ (fPen P F)); rw [vup_eq]; exact hp4) hO4 (fun j _ hne => vup_ne _ _ hne), hF3.2.2⟩, hO3a.tr hO4 (by omega) (by omega), hp4⟩)
        | (have e9 : fHist P F = F.2.1 (fPen P F) := if_neg (fun z => absurd (z.symm.trans c46) (by decide))
           rw [e9]; exact ⟨_, hw, ht3, ⟨hF3.1, hF3.2.1.eqp (fun j _ => vup_self _ _ _), hF3.2.2⟩, hO3a, hpi⟩)
    replace hw := hw4
    have htc4 := ht4.cell
    have hal4 := fHist_all (F := F) (by omega) hall
    have hb32 := bnd32 (lim := lim) hal4 h5
    have hfc4 := hF4.1
    refine xVi ⟨hx, hb, hml, hown, hts⟩ (kX10_boundBy l N0 G _ _ Z P lim ht4 _ _ hpi4 hal4) (cwV 1 hts gX4_holdOne_X10_boundBy rfl rfl rfl (by decide +kernel) ⟨Nat.le_of_ble_eq_true rfl, Nat.le_of_ble_eq_true rfl⟩) hG hN hw hS (ci := 10) htc4 rfl rfl hl.1 rfl (Nat.le_of_ble_eq_true rfl) dX4_holdOne_56 ⟨Nat.le_of_ble_eq_true rfl, Nat.le_of_ble_eq_true rfl⟩ (fun r56 w56 H locs hp56 hw hS => ?_)
    obtain ⟨rfl, rfl⟩ := hp56
    refine xistore hx hb dX4_holdOne_59 hl (by decide) rfl (fun ls hl => ?_)
    refine xiload hx hb dX4_holdOne_61 hl rfl ?_
    first | refine xifb_ne (tgt := 79) hx hb dX4_holdOne_63 (by decide) (fun c63 => ?_) (fun c63 => ?_) | refine xif_ne (tgt := 79) hx hb dX4_holdOne_63 (by decide) (by omega) (fun c63 => ?_) (fun c63 => ?_) | refine lv_if_ne (tgt := 79) hx hb dX4_holdOne_63 (by decide) (fun c63 => ?_) (fun c63 => ?_)
    · skip
      refine xiload hx hb dX4_holdOne_79 hl rfl ?_
      refine lv_iconst (v := nI 0) hx hb dX4_holdOne_81 (by decide) ?_
      refine xSNi ⟨hx, hb, hml, hown, hts⟩ (kX11_holds l N0 G _ (bnd P lim (fHist P F)) 0 hb32 (by omega)) ⟨(va_cnB (host := "LentQuill") 2 hts gX4_holdOne_X11_holds_n60 rfl rfl rfl (hG.2.1 (.methodLinkNest RX4 60 yX11_holds "LentQuill") (by decide +kernel)) hlnk1 (by decide +kernel) ⟨Nat.le_of_ble_eq_true rfl, Nat.le_of_ble_eq_true rfl⟩), hlnk2, trivial⟩ hG hN hw hS rfl hl.1 rfl (Nat.le_of_ble_eq_true rfl) dX4_holdOne_82 ⟨Nat.le_of_ble_eq_true rfl, Nat.le_of_ble_eq_true rfl⟩ (fun r82 w82 H locs hp82 hw hS => ?_)
      obtain ⟨rfl, rfl⟩ := hp82
      first | refine xifb_eq (tgt := 104) hx hb dX4_holdOne_85 (by decide) (fun c85 => ?_) (fun c85 => ?_) | refine xif_eq (tgt := 104) hx hb dX4_holdOne_85 (by decide) (by omega) (fun c85 => ?_) (fun c85 => ?_) | refine lv_if_eq (tgt := 104) hx hb dX4_holdOne_85 (by decide) (fun c85 => ?_) (fun c85 => ?_)
      · skip
        exact xvret hx hb hr hlk hw hS dX4_holdOne_104 ⟨by
          have hs : fstep P lim F = _ := rfl
          unfold fstep at hs ⊢
          first
            | (rw [if_pos c63, if_neg (by rw [c63]; simp)]; exact hF4.put (b := F.2.2.1 + 1) (c := F.2.2.2) hF4.2.2)
            | (rw [if_neg c63, if_pos c85]; exact hF4.put hF4.2.2)
            | (rw [if_neg c63, if_neg (by rw [c85]; decide)]; exact hF4), by first | exact hO4a.wu (by omega) (by omega) | exact hO4a⟩
      · skip
        refine xaload_n hx hb dX4_holdOne_88 hl rfl ?_
        refine lv_dup hx hb dX4_holdOne_89 rfl ?_
        refine xget (C := RX4) (T := TX4) (N := 4) hx hb (ci := 4) hts hiX4 hown hG hw (by repeat first | assumption | exact wu_eq _ _ _ | refine wu_ne (by omega) ?_) rfl 3 (by decide) hlnk3 (fun _ h9 => h9) rfl dX4_holdOne_90 ?_
        refine xiload hx hb dX4_holdOne_93 hl rfl ?_
        refine xiload hx hb dX4_holdOne_95 hl rfl ?_
        refine xSNi ⟨hx, hb, hml, hown, hts⟩ (kX11_shareOf l N0 G _ (fDebt F) (bnd P lim (fHist P F)) (by unfold fDebt; omega) hb32 c63) ⟨(va_cnB (host := "LentQuill") 2 hts gX4_holdOne_X11_shareOf_n64 rfl rfl rfl (hG.2.1 (.methodLinkNest RX4 64 yX11_shareOf "LentQuill") (by decide +kernel)) hlnk1 (by decide +kernel) ⟨Nat.le_of_ble_eq_true rfl, Nat.le_of_ble_eq_true rfl⟩), hlnk4, trivial⟩ hG hN hw hS rfl hl.1 rfl (Nat.le_of_ble_eq_true rfl) dX4_holdOne_97 ⟨Nat.le_of_ble_eq_true rfl, Nat.le_of_ble_eq_true rfl⟩ (fun r97 w97 H locs hp97 hw hS => ?_)
        obtain ⟨rfl, rfl⟩ := hp97
        first | refine xadd hx hb dX4_holdOne_100 ?_ | refine lv_iadd hx hb dX4_holdOne_100 ?_
        refine xput (C := RX4) (T := TX4) (N := 4) hx hb (ci := 4) (ty := .int) hts hiX4 tyX4 tyX4_ok nmX4 hown hG hw hS (by repeat first | assumption | exact wu_eq _ _ _ | refine wu_ne (by omega) ?_) rfl 3 (by decide) hlnk3 (fun _ h9 => h9) rfl (by decide +kernel) rfl rfl (Nat.le_of_ble_eq_true rfl) dX4_holdOne_101 (fun H locs hzz hw hS => ?_)
        exact xvret hx hb hr hlk hw hS dX4_holdOne_104 ⟨by
          have hs : fstep P lim F = _ := rfl
          unfold fstep at hs ⊢
          first
            | (rw [if_pos c63, if_neg (by rw [c63]; simp)]; exact hF4.put (b := F.2.2.1 + 1) (c := F.2.2.2) hF4.2.2)
            | (rw [if_neg c63, if_pos c85]; exact hF4.put hF4.2.2)
            | (rw [if_neg c63, if_neg (by rw [c85]; decide)]; exact hF4), by first | exact hO4a.wu (by omega) (by omega) | exact hO4a⟩
    · skip
      refine xaload_n hx hb dX4_holdOne_66 hl rfl ?_
      refine lv_dup hx hb dX4_holdOne_67 rfl ?_
      refine xget (C := RX4) (T := TX4) (N := 4) hx hb (ci := 4) hts hiX4 hown hG hw (by repeat first | assumption | exact wu_eq _ _ _ | refine wu_ne (by omega) ?_) rfl 2 (by decide) hlnk5 (fun _ h9 => h9) rfl dX4_holdOne_68 ?_
      refine lv_iconst (v := nI 1) hx hb dX4_holdOne_71 (by decide) ?_
      first | refine xadd hx hb dX4_holdOne_72 ?_ | refine lv_iadd hx hb dX4_holdOne_72 ?_
      refine xput (C := RX4) (T := TX4) (N := 4) hx hb (ci := 4) (ty := .int) hts hiX4 tyX4 tyX4_ok nmX4 hown hG hw hS (by repeat first | assumption | exact wu_eq _ _ _ | refine wu_ne (by omega) ?_) rfl 2 (by decide) hlnk5 (fun _ h9 => h9) rfl (by decide +kernel) rfl rfl (Nat.le_of_ble_eq_true rfl) dX4_holdOne_73 (fun H locs hzz hw hS => ?_)
      refine lv_goto (tgt := 104) hx hb dX4_holdOne_76 (by decide) ?_
      exact xvret hx hb hr hlk hw hS dX4_holdOne_104 ⟨by
        have hs : fstep P lim F = _ := rfl
        unfold fstep at hs ⊢
        first
          | (rw [if_pos c63, if_neg (by rw [c63]; simp)]; exact hF4.put (b := F.2.2.1 + 1) (c := F.2.2.2) hF4.2.2)
          | (rw [if_neg c63, if_pos c85]; exact hF4.put hF4.2.2)
          | (rw [if_neg c63, if_neg (by rw [c85]; decide)]; exact hF4), by first | exact hO4a.wu (by omega) (by omega) | exact hO4a⟩
