/-! ===== makers: contracts that know how large the heap is ===== -/
def XPz (N0 : Nat) (G : XG) (w : Wd) (z : Nat) (U : State) : Prop := XP N0 G w U ∧ U.heap.size = z
def XQz (N0 : Nat) (G : XG) (post : Unit → Wd → Prop) (z : Nat) : Array Value → State → Outcome → State → Prop := fun a st oc t => XQ N0 G vV post a st oc t ∧ t.heap.size = z
def XMz (l : Launch) (y : MethodName) (ws : List Cond) (rm : Room) (N0 : Nat) (G : XG) (av : List Value) (w : Wd) (z z1 : Nat) (post : Unit → Wd → Prop) (mc ms : Nat) : Prop :=
  Met l y ws rm (va_Pc av (XPz N0 G w z)) (XQz N0 G post z1) mc ms (fun q => N0 ≤ q)
theorem XPz.blind {N0 z : Nat} {G : XG} {w : Wd} {av : List Value} : FrameBlind (va_Pc av (XPz N0 G w z)) := by
  intro a U g mk q
  obtain ⟨q0, ⟨⟨q1, q4⟩, q2, q3⟩, q5⟩ := q
  exact ⟨q0, ⟨⟨q1, SK.same (s := U) (U := U.calling g mk a) rfl q4⟩, q2, GK.same (s := U) (U := U.calling g mk a) rfl q3⟩, q5⟩
theorem XMz.of {l : Launch} {y : MethodName} {ws ws' : List Cond} {rm : Room} {N0 : Nat} {G : XG} {av : List Value} {w : Wd} {z z1 : Nat} {post : Unit → Wd → Prop} {mc ms : Nat} {cc : ByteArray} {maxL : Nat} {ret : Option FieldType}
    (hy : plainName y.cls = true) (hw : ws = Cond.code y cc maxL ret :: ws') (hlen : (lg_sl av).length ≤ maxL)
    (body : ∀ p e s m below meth c, p.tables.exec = Jvm.exec → c.code = cc → meth.sig.returnType = ret → meth.locks = false → (y.name = "<init>" → meth.name = "<init>") → c.maxLocals = maxL → s.vm.findClass y.cls = some m.cls → (∀ x ∈ ws, x.before av.toArray s = true) → (N0 ≤ s.heap.size ∧ SK N0 G s s.heap) → s.heap.size = z → PW N0 G w s.heap → GK G s → va_S (fun q => N0 ≤ q) s.heap s.heap [] → ∀ ls, lv_has ls maxL (lv_args 0 av) →
      W p l e rm s m av.toArray below meth c s.heap [] 0 0 (MQ below (XQz N0 G post z1) av.toArray s mc ms (fun q => N0 ≤ q)) (F0 m 0 ls [])) : XMz l y ws rm N0 G av w z z1 post mc ms := by
  refine Met.ofW (cc := cc) (maxL := maxL) (ret := ret) hy hw ?_
  intro p e s m args below meth c s₁ B hml hv
  obtain ⟨rfl, ⟨hN, hP, hG⟩, hz⟩ := hv
  have hl := lv_entry av (n := maxL) hlen
  rw [lg_entry_eq]
  generalize (lg_sl av ++ List.replicate (maxL - (lg_sl av).length) Slot.unset).toArray = ls at hl ⊢
  exact body p e s m below meth c B.exec B.bytes B.returns B.notSynchronized (fun h => (name_of_methodNamed B.named B.method).1.trans h) hml (findClass_of_methodNamed B.named) (atoms_spec (ws := ws) B.pre) hN hz hP hG va_S.rf ls hl
section XZ
variable {p : Program} {l : Launch} {e : Env} {R : Room} {s : State} {m : MethodId} {args : Array Value} {below : List Frame} {meth : Method} {c : Code} {H : Heap} {locs : List Loc} {cells slots : Nat} {Q : State → Prop}
variable {cc : ByteArray} {pc : Nat} {ls : Array Slot} {rest st0 : List Value} {N0 : Nat} {G : XG} {w : Wd} {H0 : Heap} {a nL mc ms n index maxL : Nat} {vs : List (Option Value)} {y : MethodName} {bytes : ByteArray} {ret : Option FieldType} {ws : List Cond} {rm : Room} {Ts : List Cond} {own C : String} {b : Nat} {As : List Value} {z z1 : Nat}
theorem xcallz {post : Unit → Wd → Prop} {ar : Array Value} (hr : va_Run p l e R s m args below meth c H locs cells slots mc ms (F0 m pc ls st0) rest (XQz N0 G post z1 ar) (fun q => N0 ≤ q)) (hS : va_S (fun q => N0 ≤ q) H0 H locs)
    (kk : ∀ (r : Unit) (w1 : Wd) (H1 : Heap) (locs1 : List Loc), post r w1 → H1.size = z1 → PW N0 G w1 H1 → va_S (fun q => N0 ≤ q) H0 H1 locs1 → W p l e R s m args below meth c H1 locs1 (cells + mc) (slots + ms) Q (F0 m (pc + 3) ls rest)) : W p l e R s m args below meth c H locs cells slots Q (F0 m pc ls st0) := by
  intro T hT X
  obtain ⟨v, st₀, t, T', L, h0, X', hL, e1, e2, ⟨⟨⟨r, w1, hv, hp, hb⟩, hz, hk⟩, hzz⟩, st⟩ := hr T hT X
  obtain rfl : v = none := Outcome.returned.inj hv
  rw [h0] at hz hk
  obtain ⟨t2, a1, b1⟩ := kk r w1 T'.heap (locs ++ L) hp (by rw [e1]; exact hzz) (by rw [e1]; exact hb)
    ⟨Nat.le_trans hS.1 (by rw [e1]; exact hz), fun q h1 h2 => by rw [e1, hk q (Nat.lt_of_lt_of_le h1 hS.1) h2]; exact hS.2.1 q h1 h2, fun q hq => by
      rcases List.mem_append.mp hq with h | h
      · exact hS.2.2 q h
      · exact hL q h⟩ T' rfl X'
  exact ⟨t2, st t2 a1, b1⟩
theorem xpreSz {s : State} {H : Heap} {As : List Value} (hG : GK G s) (hN : N0 ≤ H.size ∧ SK N0 G s H) (hw : PW N0 G w H) (hz : H.size = z) : PreS s H (va_Pc As (XPz N0 G w z)) As :=
  ⟨XPz.blind, fun U hU hW => ⟨rfl, ⟨by rw [hU]; exact ⟨hN.1, hN.2.warm hW⟩, by rw [hU]; exact hw, hG.warm hW⟩, by rw [hU]; exact hz⟩⟩
theorem xIz {post : Unit → Wd → Prop} (S : CallFix p m c cc nL s args Ts own) (hM : XMz l y ws rm N0 G (.ref b :: As) w z z1 post mc ms) (cw : CallB R s args own index y bytes maxL none ws rm mc ms n ∧ y.name = "<init>" ∧ (Cond.instanceMethod y).before args s = true) (hG : GK G s) (hN : N0 ≤ H0.size ∧ SK N0 G s H0) (hw : PW N0 G w H) (hS : va_S (fun q => N0 ≤ q) H0 H locs) (hz : H.size = z) (hn : As.length = n) (hsize : ls.size = nL) (hstack : st0 = As.reverse ++ .ref b :: rest) (hW : (rest.map fun v => v.category).sum ≤ 8) (hdg : decode cc pc = .ok (.invokespecial index, 3)) (hf : cells + mc ≤ R.cells ∧ slots + ms ≤ R.slots)
    (kk : ∀ (r : Unit) (w1 : Wd) (H1 : Heap) (locs1 : List Loc), post r w1 → H1.size = z1 → PW N0 G w1 H1 → va_S (fun q => N0 ≤ q) H0 H1 locs1 → W p l e R s m args below meth c H1 locs1 (cells + mc) (slots + ms) Q (F0 m (pc + 3) ls rest)) : W p l e R s m args below meth c H locs cells slots Q (F0 m pc ls st0) :=
  xcallz (va_runI S hM cw (xpreSz hG ⟨Nat.le_trans hN.1 hS.1, hN.2.kept hS⟩ hw hz) rfl hn hsize hstack (lv_room (m := m) (pc := pc) (ls := ls) (rest := st0) hW) hdg hf) hS kk
theorem xINz {host : String} {post : Unit → Wd → Prop} (S : CallFix p m c cc nL s args Ts own) (hM : XMz l y ws rm N0 G (.ref b :: As) w z z1 post mc ms) (cw : va_CN R s args own index y host bytes maxL none ws rm mc ms n ∧ y.name = "<init>" ∧ (Cond.instanceMethod y).before args s = true) (hG : GK G s) (hN : N0 ≤ H0.size ∧ SK N0 G s H0) (hw : PW N0 G w H) (hS : va_S (fun q => N0 ≤ q) H0 H locs) (hz : H.size = z) (hn : As.length = n) (hsize : ls.size = nL) (hstack : st0 = As.reverse ++ .ref b :: rest) (hW : (rest.map fun v => v.category).sum ≤ 8) (hdg : decode cc pc = .ok (.invokespecial index, 3)) (hf : cells + mc ≤ R.cells ∧ slots + ms ≤ R.slots)
    (kk : ∀ (r : Unit) (w1 : Wd) (H1 : Heap) (locs1 : List Loc), post r w1 → H1.size = z1 → PW N0 G w1 H1 → va_S (fun q => N0 ≤ q) H0 H1 locs1 → W p l e R s m args below meth c H1 locs1 (cells + mc) (slots + ms) Q (F0 m (pc + 3) ls rest)) : W p l e R s m args below meth c H locs cells slots Q (F0 m pc ls st0) :=
  xcallz (va_runIN S hM cw (xpreSz hG ⟨Nat.le_trans hN.1 hS.1, hN.2.kept hS⟩ hw hz) rfl hn hsize hstack (lv_room (m := m) (pc := pc) (ls := ls) (rest := st0) hW) hdg hf) hS kk
theorem xvretz {post : Unit → Wd → Prop} (hexec : p.tables.exec = Jvm.exec) (hb : c.code = cc) (hr : meth.sig.returnType = none) (hlk : meth.locks = false) (hw : PW N0 G w H) (hS : va_S (fun q => N0 ≤ q) s.heap H locs) (hz : H.size = z1) (hdg : decode cc pc = .ok (.return_, 1)) (hp : post () w) : W p l e R s m args below meth c H locs cells slots (MQ below (XQz N0 G post z1) args s cells slots (fun q => N0 ≤ q)) (F0 m pc ls []) :=
  W.vret hexec hb hr (fun t ht _ => ⟨⟨⟨(), w, rfl, hp, by rw [ht]; exact hw⟩, hS.F ht⟩, by rw [ht]; exact hz⟩) hS.2.2 hdg hlk
theorem xputMF (hexec : p.tables.exec = Jvm.exec) (hb : c.code = cc) {index : Nat} (hts : ∀ x ∈ Ts, x.before args s = true) (hin : ∀ x ∈ u_ws RX12 TX12 37, x ∈ Ts) (hown : s.vm.findClass RX12 = some m.cls) (hG : GK G s) (hw : PW N0 G w H) (hS0 : va_S (fun q => N0 ≤ q) H0 H locs) {mf : Nat → Value} (he : w a = some (eO 12 (mfl mf))) (k : Nat) (hk : k < 37) (hlink : (Cond.fieldLink RX12 index (TX12 k).1 (TX12 k).2.1 (TX12 k).2.2.1).before args s = true) (hfin : (TX12 k).2.2.2 = true) (hin2 : meth.name = "<init>") (hdecl : (TX12 k).1 = RX12) {ty : FieldType} {v : Value} (hd : parseFieldDescriptor (TX12 k).2.2.1 = some ty) (hn : narrow ty v = v) (hfit : fits ty v = true)
    (hdg : decode cc pc = .ok (.putfield index, 3)) (kk : ∀ (H1 : Heap) (locs1 : List Loc), H1.size = H.size → PW N0 G (wu w a (eO 12 (mfl (vu mf k v)))) H1 → va_S (fun q => N0 ≤ q) H0 H1 locs1 → W p l e R s m args below meth c H1 locs1 cells slots Q (F0 m (pc + 3) ls rest)) : W p l e R s m args below meth c H locs cells slots Q (F0 m pc ls (v :: .ref a :: rest)) :=
  xputF (C := RX12) (T := TX12) (N := 37) hexec hb 12 hts hin tyX12 tyX12_ok nmX12 hown hG hw hS0 he rfl k hk hlink (fun _ h9 => h9) hfin hin2 hdecl hd hn hfit (by simp [mfl]; exact hk) hdg (by rw [mfl_set]; exact kk)
end XZ
/-- a town not yet read -/
def S00 : QS := ([], [], 0, ((fun _ => [0]), [], []), none, 0, 0)
/-- the reference's fields as they are born -/
def V00 (k : Nat) : Value := if k = 25 ∨ k = 36 then .long 0 else if [3, 4, 5, 6, 8, 9, 11, 12, 15, 18, 19, 20, 24, 30, 31, 32, 33, 34, 35].contains k then .null else .int 0
theorem mk_pens {G : XG} {w1 w2 : Wd} {g : Nat → Option Nat} {b i : Nat} {e : va_E} (hg : ∀ j, j < i → g j = some (b + 4 + 2 * j) ∧ RPen G w1 (b + 4 + 2 * j) [0]) (hO : Out w1 w2 (b + 4 + 2 * i) (b + 4 + 2 * i + 2)) (hp : RPen G w2 (b + 4 + 2 * i) [0]) (h1 : b + 1 < b + 4) : ∀ j, j < i + 1 → va_up g i (some (b + 4 + 2 * i)) j = some (b + 4 + 2 * j) ∧ RPen G (wu w2 (b + 1) e) (b + 4 + 2 * j) [0] := by
  intro j hj
  have hq : Out w2 (wu w2 (b + 1) e) (b + 1) (b + 2) := Out.rf.wu (Nat.le_refl _) (by omega)
  by_cases q : j = i
  · subst q
    exact ⟨vup_eq _ _ _, hp.out hq (by omega)⟩
  · obtain ⟨h3, h4⟩ := hg j (by omega)
    exact ⟨(vup_ne _ _ q).trans h3, (h4.out hO (by omega)).out hq (by omega)⟩
theorem rm_00 {M0 : Nat} {V1 : Nat → Value} (e : V1 = (vu (vu (vu (vu (vu (vu (vu (vu (vu (vu (vu (vu (vu (vu (vu (vu (vu (vu (vu V00 3 (.ref (M0 + 1))) 4 (.ref (M0 + 2))) 5 (.ref (M0 + 3))) 6 (.ref (M0 + 4))) 8 (.ref (M0 + 5))) 9 (.ref (M0 + 6))) 11 (.ref (M0 + 7))) 12 (.ref (M0 + 8))) 15 (.ref (M0 + 9))) 18 (.ref (M0 + 10))) 19 (.ref (M0 + 11))) 20 (.ref (M0 + 12))) 24 (.ref (M0 + 13))) 30 (.ref (M0 + 14))) 31 (.ref (M0 + 15))) 32 (.ref (M0 + 16))) 33 (.ref (M0 + 17))) 34 (.ref (M0 + 18))) 35 (.ref (M0 + 19)))) : RM S00 V1 (fun _ _ => 0) := by
  subst e
  exact ⟨rfl, rfl, rfl, rfl, rfl, rfl, rfl, fun i hi => absurd hi (Nat.not_lt_zero i), ⟨fun i hi => absurd hi (Nat.not_lt_zero i), fun i hi => absurd hi (Nat.not_lt_zero i), fun i hi => absurd hi (Nat.not_lt_zero i)⟩, fun i hi => absurd hi (Nat.not_lt_zero i), false, 0, rfl, rfl, Nat.le_refl _, (fun h => by cases h), (fun B hB => by cases hB)⟩
set_option maxHeartbeats 4000000 in
set_option maxRecDepth 100000 in
theorem kX6_init (l : Launch) (N0 : Nat) (G : XG) (w : Wd) (b : Nat) (hb0 : w b = some (eO 6 [.null, .int 0])) : XMz l yX6_init wsX6_init (rmA 2 1 41) N0 G [.ref b] w (b + 1) (b + 2) (fun _ w1 => RPen G w1 b [0] ∧ Out w w1 b (b + 2)) 1 41 := by
  refine XMz.of (cc := cX6_init) (maxL := 1) (ret := none) (by decide) rfl (Nat.le_of_ble_eq_true rfl) ?_
  intro p e s m below meth c hx hb hr hlk hin0 hml hown hts hN hz hw hG hS ls hl
  have hown : s.vm.findClass RX6 = some m.cls := hown
  have hiX6 : ∀ x ∈ u_ws RX6 TX6 2, x ∈ wsX6_init := by decide +kernel
  have hlnk0 := hts (.methodLink RX6 3 objectInit) (by decide +kernel)
  have hlnk1 := hts (.instanceMethod objectInit) (by decide +kernel)
  have hlnk2 := hts (.code objectInit ⟨#[0xb1]⟩ 1 none) (by decide +kernel)
  have hlnk3 := hts (.arrayClass .int) (by decide +kernel)
  have hlnk4 := hts (.fieldLink RX6 9 "LentQuill$Pen" "hands" "[I") (by decide +kernel)
  have hl : lh ls 1 [some (.ref b)] := hl
  refine xaload_n hx hb dX6_init_0 hl rfl ?_
  refine W.objInit hx hb hown hlnk0 hlnk1 hlnk2 rfl (by rw [hml]; exact hl.1) rfl dX6_init_1 (Nat.le_of_ble_eq_true rfl) (Nat.le_of_ble_eq_true rfl) ?_
  refine xaload_n hx hb dX6_init_4 hl rfl ?_
  refine lv_bipush (v := nI 41) hx hb dX6_init_5 (by decide) ?_
  refine xnewI hx hb hlnk3 hG hN hw hS (by omega) (Nat.le_of_ble_eq_true rfl) (Nat.le_of_ble_eq_true rfl) hz dX6_init_7 (fun H hz hw hS => ?_)
  refine xputF (C := RX6) (T := TX6) (N := 2) hx hb (ci := 6) (ty := (.array .int)) hts hiX6 tyX6 tyX6_ok nmX6 hown hG hw hS (by repeat first | assumption | exact wu_eq _ _ _ | refine wu_ne (by omega) ?_) rfl 0 (by decide) hlnk4 (fun _ h9 => h9) rfl (hin0 rfl) rfl (by decide +kernel) rfl rfl (Nat.le_of_ble_eq_true rfl) dX6_init_9 (fun H locs hzz hw hS => ?_)
  have hz := hzz.trans hz
  exact xvretz hx hb hr hlk hw hS (by omega) dX6_init_12 ⟨⟨fun _ => 0, wu_eq _ _ _, wu_ne (by omega) (wu_eq _ _ _), by simp, by simp, fun j hj => by simp at hj; subst hj; rfl⟩, (Out.rf.wu (by omega) (by omega)).wu (by omega) (by omega)⟩
set_option maxHeartbeats 4000000 in
set_option maxRecDepth 100000 in
theorem kX5_init (l : Launch) (N0 : Nat) (G : XG) (w : Wd) (b : Nat) (hb0 : w b = some (eO 5 [.null, .int 0])) : XMz l yX5_init wsX5_init (rmA 2 1 18) N0 G [.ref b] w (b + 1) (b + 2) (fun _ w1 => RPage G w1 b [] ∧ Out w w1 b (b + 2)) 1 18 := by
  refine XMz.of (cc := cX5_init) (maxL := 1) (ret := none) (by decide) rfl (Nat.le_of_ble_eq_true rfl) ?_
  intro p e s m below meth c hx hb hr hlk hin0 hml hown hts hN hz hw hG hS ls hl
  have hown : s.vm.findClass RX5 = some m.cls := hown
  have hiX5 : ∀ x ∈ u_ws RX5 TX5 2, x ∈ wsX5_init := by decide +kernel
  have hlnk0 := hts (.methodLink RX5 3 objectInit) (by decide +kernel)
  have hlnk1 := hts (.instanceMethod objectInit) (by decide +kernel)
  have hlnk2 := hts (.code objectInit ⟨#[0xb1]⟩ 1 none) (by decide +kernel)
  have hlnk3 := hts (.arrayClass .int) (by decide +kernel)
  have hlnk4 := hts (.fieldLink RX5 9 "LentQuill$Page" "codes" "[I") (by decide +kernel)
  have hl : lh ls 1 [some (.ref b)] := hl
  refine xaload_n hx hb dX5_init_0 hl rfl ?_
  refine W.objInit hx hb hown hlnk0 hlnk1 hlnk2 rfl (by rw [hml]; exact hl.1) rfl dX5_init_1 (Nat.le_of_ble_eq_true rfl) (Nat.le_of_ble_eq_true rfl) ?_
  refine xaload_n hx hb dX5_init_4 hl rfl ?_
  refine lv_bipush (v := nI 18) hx hb dX5_init_5 (by decide) ?_
  refine xnewI hx hb hlnk3 hG hN hw hS (by omega) (Nat.le_of_ble_eq_true rfl) (Nat.le_of_ble_eq_true rfl) hz dX5_init_7 (fun H hz hw hS => ?_)
  refine xputF (C := RX5) (T := TX5) (N := 2) hx hb (ci := 5) (ty := (.array .int)) hts hiX5 tyX5 tyX5_ok nmX5 hown hG hw hS (by repeat first | assumption | exact wu_eq _ _ _ | refine wu_ne (by omega) ?_) rfl 0 (by decide) hlnk4 (fun _ h9 => h9) rfl (hin0 rfl) rfl (by decide +kernel) rfl rfl (Nat.le_of_ble_eq_true rfl) dX5_init_9 (fun H locs hzz hw hS => ?_)
  have hz := hzz.trans hz
  exact xvretz hx hb hr hlk hw hS (by omega) dX5_init_12 ⟨⟨fun _ => 0, wu_eq _ _ _, wu_ne (by omega) (wu_eq _ _ _), by simp, fun i hi => absurd hi (Nat.not_lt_zero i), fun i hi => absurd hi (Nat.not_lt_zero i)⟩, (Out.rf.wu (by omega) (by omega)).wu (by omega) (by omega)⟩
set_option maxHeartbeats 4000000 in
set_option maxRecDepth 100000 in
theorem kX10_init (l : Launch) (N0 : Nat) (G : XG) (w : Wd) (b Z : Nat) (hb0 : w b = some (eO 10 [.null, .int 0, .int 0])) : XMz l yX10_init wsX10_init (rmA 2 1 5) N0 G [.ref b] w (b + 1) (b + 2) (fun _ w1 => RTown G w1 b Z [] 0 ∧ Out w w1 b (b + 2)) 1 5 := by
  refine XMz.of (cc := cX10_init) (maxL := 1) (ret := none) (by decide) rfl (Nat.le_of_ble_eq_true rfl) ?_
  intro p e s m below meth c hx hb hr hlk hin0 hml hown hts hN hz hw hG hS ls hl
  have hown : s.vm.findClass RX10 = some m.cls := hown
  have hiX10 : ∀ x ∈ u_ws RX10 TX10 3, x ∈ wsX10_init := by decide +kernel
  have hlnk0 := hts (.methodLink RX10 3 objectInit) (by decide +kernel)
  have hlnk1 := hts (.instanceMethod objectInit) (by decide +kernel)
  have hlnk2 := hts (.code objectInit ⟨#[0xb1]⟩ 1 none) (by decide +kernel)
  have hlnk3 := hts (.classLink RX10 9 RX7) (by decide +kernel)
  have hlnk4 := hts (.fieldLink RX10 11 "LentQuill$Town" "people" "[LLentQuill$Person;") (by decide +kernel)
  have hl : lh ls 1 [some (.ref b)] := hl
  refine xaload_n hx hb dX10_init_0 hl rfl ?_
  refine W.objInit hx hb hown hlnk0 hlnk1 hlnk2 rfl (by rw [hml]; exact hl.1) rfl dX10_init_1 (Nat.le_of_ble_eq_true rfl) (Nat.le_of_ble_eq_true rfl) ?_
  refine xaload_n hx hb dX10_init_4 hl rfl ?_
  refine lv_iconst (v := nI 5) hx hb dX10_init_5 (by decide) ?_
  refine xnewP hx hb hown hlnk3 hG hN hw hS (by omega) (Nat.le_of_ble_eq_true rfl) (Nat.le_of_ble_eq_true rfl) hz dX10_init_6 (fun H hz hw hS => ?_)
  refine xputF (C := RX10) (T := TX10) (N := 3) hx hb (ci := 10) (ty := (.array (.object "LentQuill$Person"))) hts hiX10 tyX10 tyX10_ok nmX10 hown hG hw hS (by repeat first | assumption | exact wu_eq _ _ _ | refine wu_ne (by omega) ?_) rfl 0 (by decide) hlnk4 (fun _ h9 => h9) rfl (hin0 rfl) rfl (by decide +kernel) rfl rfl (Nat.le_of_ble_eq_true rfl) dX10_init_9 (fun H locs hzz hw hS => ?_)
  have hz := hzz.trans hz
  exact xvretz hx hb hr hlk hw hS (by omega) dX10_init_12 ⟨⟨fun _ => none, wu_eq _ _ _, wu_ne (by omega) (wu_eq _ _ _), by simp, by simp, fun i hi => absurd hi (Nat.not_lt_zero i)⟩, (Out.rf.wu (by omega) (by omega)).wu (by omega) (by omega)⟩
set_option maxHeartbeats 4000000 in
set_option maxRecDepth 100000 in
theorem kX2_init (l : Launch) (N0 : Nat) (G : XG) (w : Wd) (b : Nat) (hb0 : w b = some (eO 2 [.null, .null, .null, .int 0, .int 0, .int 0, .int 0])) : XMz l yX2_init wsX2_init (rmA 3 13 232) N0 G [.ref b] w (b + 1) (b + 14) (fun _ w1 => RBooks G w1 b (fun _ => [0]) [] [] ∧ Out w w1 b (b + 14)) 13 232 := by
  refine XMz.of (cc := cX2_init) (maxL := 2) (ret := none) (by decide) rfl (Nat.le_of_ble_eq_true rfl) ?_
  intro p e s m below meth c hx hb hr hlk hin0 hml hown hts hN hz hw hG hS ls hl
  have hown : s.vm.findClass RX2 = some m.cls := hown
  have hiX2 : ∀ x ∈ u_ws RX2 TX2 7, x ∈ wsX2_init := by decide +kernel
  have hiX6 : ∀ x ∈ u_ws RX6 TX6 2, x ∈ wsX2_init := by decide +kernel
  have hlnk0 := hts (.methodLink RX2 3 objectInit) (by decide +kernel)
  have hlnk1 := hts (.instanceMethod objectInit) (by decide +kernel)
  have hlnk2 := hts (.code objectInit ⟨#[0xb1]⟩ 1 none) (by decide +kernel)
  have hlnk3 := hts (.classLink RX2 9 RX6) (by decide +kernel)
  have hlnk4 := hts (.fieldLink RX2 11 "LentQuill$Books" "pens" "[LLentQuill$Pen;") (by decide +kernel)
  have hlnk5 := hts (.arrayClass .int) (by decide +kernel)
  have hlnk6 := hts (.fieldLink RX2 17 "LentQuill$Books" "debts" "[I") (by decide +kernel)
  have hlnk7 := hts (.fieldLink RX2 21 "LentQuill$Books" "bound" "[I") (by decide +kernel)
  have hlnk8 := hts (.instantiable RX6 2) (by decide +kernel)
  have hlnk9 := hts (.initialized RX6) (by decide +kernel)
  have hlnk10 := hts (.instanceMethod yX6_init) (by decide +kernel)
  have hl : lh ls 2 [some (.ref b), none] := hl
  refine xaload_n hx hb dX2_init_0 hl rfl ?_
  refine W.objInit hx hb hown hlnk0 hlnk1 hlnk2 rfl (by rw [hml]; exact hl.1) rfl dX2_init_1 (Nat.le_of_ble_eq_true rfl) (Nat.le_of_ble_eq_true rfl) ?_
  refine xaload_n hx hb dX2_init_4 hl rfl ?_
  refine lv_iconst (v := nI 5) hx hb dX2_init_5 (by decide) ?_
  refine xnewN hx hb hown hlnk3 hG hN hw hS (by omega) (Nat.le_of_ble_eq_true rfl) (Nat.le_of_ble_eq_true rfl) hz dX2_init_6 (fun H hz hw hS => ?_)
  refine xputF (C := RX2) (T := TX2) (N := 7) hx hb (ci := 2) (ty := (.array (.object "LentQuill$Pen"))) hts hiX2 tyX2 tyX2_ok nmX2 hown hG hw hS (by repeat first | assumption | exact wu_eq _ _ _ | refine wu_ne (by omega) ?_) rfl 0 (by decide) hlnk4 (fun _ h9 => h9) rfl (hin0 rfl) rfl (by decide +kernel) rfl rfl (Nat.le_of_ble_eq_true rfl) dX2_init_9 (fun H locs hzz hw hS => ?_)
  have hz := hzz.trans hz
  have hz : H.size = b + 2 := by omega
  refine xaload_n hx hb dX2_init_12 hl rfl ?_
  refine lv_bipush (v := nI 6) hx hb dX2_init_13 (by decide) ?_
  refine xnewI hx hb hlnk5 hG hN hw hS (by omega) (Nat.le_of_ble_eq_true rfl) (Nat.le_of_ble_eq_true rfl) hz dX2_init_15 (fun H hz hw hS => ?_)
  refine xputF (C := RX2) (T := TX2) (N := 7) hx hb (ci := 2) (ty := (.array .int)) hts hiX2 tyX2 tyX2_ok nmX2 hown hG hw hS (by repeat first | assumption | exact wu_eq _ _ _ | refine wu_ne (by omega) ?_) rfl 1 (by decide) hlnk6 (fun _ h9 => h9) rfl (hin0 rfl) rfl (by decide +kernel) rfl rfl (Nat.le_of_ble_eq_true rfl) dX2_init_17 (fun H locs hzz hw hS => ?_)
  have hz := hzz.trans hz
  have hz : H.size = b + 3 := by omega
  refine xaload_n hx hb dX2_init_20 hl rfl ?_
  refine lv_bipush (v := nI 6) hx hb dX2_init_21 (by decide) ?_
  refine xnewI hx hb hlnk5 hG hN hw hS (by omega) (Nat.le_of_ble_eq_true rfl) (Nat.le_of_ble_eq_true rfl) hz dX2_init_23 (fun H hz hw hS => ?_)
  refine xputF (C := RX2) (T := TX2) (N := 7) hx hb (ci := 2) (ty := (.array .int)) hts hiX2 tyX2 tyX2_ok nmX2 hown hG hw hS (by repeat first | assumption | exact wu_eq _ _ _ | refine wu_ne (by omega) ?_) rfl 2 (by decide) hlnk7 (fun _ h9 => h9) rfl (hin0 rfl) rfl (by decide +kernel) rfl rfl (Nat.le_of_ble_eq_true rfl) dX2_init_25 (fun H locs hzz hw hS => ?_)
  have hz := hzz.trans hz
  refine lv_iconst (v := nI 0) hx hb dX2_init_28 (by decide) ?_
  refine xistore_n hx hb dX2_init_29 hl (by decide) rfl (fun ls hl => ?_)
  have loop30 : ∀ (nf : Nat) (i : Nat) (w1 : Wd) (g : Nat → Option Nat) (H : Heap) (locs : List Loc) (ls : Array Slot), 5 - i < nf → (i ≤ 5) → (H.size = b + 4 + 2 * i) → (w1 b = some (eO 2 [.ref (b + 1), .ref (b + 2), .ref (b + 3), .int 0, .int 0, .int 0, .int 0])) → (w1 (b + 1) = some (eN G 5 g)) → (w1 (b + 2) = some (eI G 6 (fun _ => 0))) → (w1 (b + 3) = some (eI G 6 (fun _ => 0))) → (∀ j, j < i → g j = some (b + 4 + 2 * j) ∧ RPen G w1 (b + 4 + 2 * j) [0]) → (Out w w1 b (b + 14)) → PW N0 G w1 H → va_S (fun q => N0 ≤ q) s.heap H locs → lh ls 2 [some (.ref b), some (.int (nI i))] → W p l e (rmA 3 13 232) s m ([.ref b] : List Value).toArray below meth c H locs (3 + 2 * i) (17 + 43 * i) (MQ below (XQz N0 G (fun _ w1 => RBooks G w1 b (fun _ => [0]) [] [] ∧ Out w w1 b (b + 14)) (b + 14)) ([.ref b] : List Value).toArray s 13 232 (fun q => N0 ≤ q)) (F0 m 30 ls []) := by
    intro nf
    induction nf with
    | zero => intros; omega
    | succ nf ih30 =>
      intro i w1 g H locs ls hnf hi hz e0 e1 e2 e3 hg hO1 hw hS hl
      refine xiload_n hx hb dX2_init_30 hl rfl ?_
      refine xaload_n hx hb dX2_init_31 hl rfl ?_
      refine xget (C := RX2) (T := TX2) (N := 7) hx hb (ci := 2) hts hiX2 hown hG hw (by repeat first | assumption | exact wu_eq _ _ _ | refine wu_ne (by omega) ?_) rfl 0 (by decide) hlnk4 (fun _ h9 => h9) rfl dX2_init_32 ?_
      first | refine xalenI hx hb hG hw (by repeat first | assumption | exact wu_eq _ _ _ | refine wu_ne (by omega) ?_) dX2_init_35 ?_ | refine xalenP hx hb hG hw (by repeat first | assumption | exact wu_eq _ _ _ | refine wu_ne (by omega) ?_) dX2_init_35 ?_ | refine xalenN hx hb hG hw (by repeat first | assumption | exact wu_eq _ _ _ | refine wu_ne (by omega) ?_) dX2_init_35 ?_
      first | refine xcmp_ge (tgt := 58) hx hb dX2_init_36 (by decide) (by omega) (by omega) (fun c36 => ?_) (fun c36 => ?_) | refine lv_icmp_ge (tgt := 58) hx hb dX2_init_36 (by decide) (fun c36 => ?_) (fun c36 => ?_)
      · skip
        obtain rfl : i = 5 := by omega
        exact xvretz hx hb hr hlk hw hS (by omega) dX2_init_58 ⟨⟨g, fun _ => 0, fun _ => 0, e0, e1, e2, e3, by simp, by simp, fun i hi => (hg i hi).1, fun i hi => absurd hi (Nat.not_lt_zero i), fun i hi => absurd hi (Nat.not_lt_zero i), fun q hq => absurd hq List.not_mem_nil, fun i hi => (hg i hi).2⟩, hO1⟩
      · skip
        refine xaload_n hx hb dX2_init_39 hl rfl ?_
        refine xget (C := RX2) (T := TX2) (N := 7) hx hb (ci := 2) hts hiX2 hown hG hw (by repeat first | assumption | exact wu_eq _ _ _ | refine wu_ne (by omega) ?_) rfl 0 (by decide) hlnk4 (fun _ h9 => h9) rfl dX2_init_40 ?_
        refine xiload_n hx hb dX2_init_43 hl rfl ?_
        refine xnew (C := RX6) (T := TX6) (N := 2) (fs := [.null, .int 0]) hx hb (ci := 6) hts hiX6 tyX6 tyX6_ok hown hlnk3 hlnk8 hlnk9 hG hN hw hS rfl (fun j hj => by rcases (show j = 0 ∨ j = 1 by omega) with rfl | rfl <;> rfl) (by simp only [rmA]; omega) (by simp only [rmA]; omega) hz dX2_init_44 (fun H hz hw hS => ?_)
        refine lv_dup hx hb dX2_init_47 rfl ?_
        refine xINz ⟨hx, hb, hml, hown, hts⟩ (kX6_init l N0 G _ (b + 4 + 2 * i) (wu_eq _ _ _)) ⟨(va_cnB (host := "LentQuill") 0 hts gX2_init_X6_init_n24 rfl rfl rfl (hG.2.1 (.methodLinkNest RX2 24 yX6_init "LentQuill") (by decide +kernel)) hlnk9 (by decide +kernel) ⟨Nat.le_of_ble_eq_true rfl, Nat.le_of_ble_eq_true rfl⟩), rfl, hlnk10⟩ hG hN hw hS (by omega) rfl hl.1 rfl (Nat.le_of_ble_eq_true rfl) dX2_init_48 ⟨by simp only [rmA]; omega, by simp only [rmA]; omega⟩ (fun r48 w48 H locs hp48 hz hw hS => ?_)
        obtain ⟨hp9, hO9⟩ := hp48
        have hOn : Out w1 w48 (b + 4 + 2 * i) (b + 4 + 2 * i + 2) := (Out.rf.wu (by omega) (by omega)).tr hO9 (Nat.le_refl _) (Nat.le_refl _)
        have e0b := (hOn b (by omega)).trans e0
        have e1b := (hOn (b + 1) (by omega)).trans e1
        have e2b := (hOn (b + 2) (by omega)).trans e2
        have e3b := (hOn (b + 3) (by omega)).trans e3
        have hpc := hp9.cell
        refine xnast hx hb hG hw hS (by repeat first | assumption | exact wu_eq _ _ _ | refine wu_ne (by omega) ?_) (by repeat first | assumption | exact wu_eq _ _ _ | refine wu_ne (by omega) ?_) rfl (Or.inl rfl) (by omega) (by omega) dX2_init_51 (fun H locs hzz hw hS => ?_)
        have hz := hzz.trans hz
        first | refine xiincN hx hb 1 dX2_init_52 hl rfl (by decide) (by decide) rfl (fun ls hl => ?_) | refine xiinc hx hb dX2_init_52 hl rfl rfl (by decide) rfl (fun ls hl => ?_)
        refine lv_goto (tgt := 30) hx hb dX2_init_55 (by decide) ?_
        refine W.widen (k := 3 + 2 * (i + 1)) (n := 17 + 43 * (i + 1)) (by omega) (by omega) ?_
        exact ih30 (i + 1) _ _ _ _ _ (by omega) (by omega) (by omega) (by rw [wu_nq (by omega)]; exact e0b) (wu_eq _ _ _) (by rw [wu_nq (by omega)]; exact e2b) (by rw [wu_nq (by omega)]; exact e3b) (mk_pens hg hOn hp9 (by omega)) (((hO1.wu (by omega) (by omega)).tr hO9 (by omega) (by omega)).wu (by omega) (by omega)) hw hS hl
  exact loop30 6 0 _ (fun _ => none) _ _ _ (by omega) (by omega) (by omega) (wu_eq _ _ _) (by rw [wu_nq (by omega), wu_nq (by omega), wu_nq (by omega), wu_nq (by omega), wu_nq (by omega)]; exact wu_eq _ _ _) (by rw [wu_nq (by omega), wu_nq (by omega), wu_nq (by omega)]; exact wu_eq _ _ _) (by rw [wu_nq (by omega)]; exact wu_eq _ _ _) (fun j hj => absurd hj (Nat.not_lt_zero j)) ((((((Out.rf.wu (by omega) (by omega)).wu (by omega) (by omega)).wu (by omega) (by omega)).wu (by omega) (by omega)).wu (by omega) (by omega)).wu (by omega) (by omega)) hw hS hl
set_option maxHeartbeats 4000000 in
set_option maxRecDepth 100000 in
theorem kX8_init (l : Launch) (N0 : Nat) (G : XG) (w : Wd) (b : Nat) (hb0 : w b = some (eO 8 [.null, .null, .int 0, .int 0, .int 0, .int 0])) : XMz l yX8_init wsX8_init (rmA 3 3 48) N0 G [.ref b] w (b + 1) (b + 4) (fun _ w1 => RSrch G w1 b [0] (0, 0, fun _ => 0) 0 0 ∧ Out w w1 b (b + 4)) 3 48 := by
  refine XMz.of (cc := cX8_init) (maxL := 1) (ret := none) (by decide) rfl (Nat.le_of_ble_eq_true rfl) ?_
  intro p e s m below meth c hx hb hr hlk hin0 hml hown hts hN hz hw hG hS ls hl
  have hown : s.vm.findClass RX8 = some m.cls := hown
  have hiX6 : ∀ x ∈ u_ws RX6 TX6 2, x ∈ wsX8_init := by decide +kernel
  have hiX8 : ∀ x ∈ u_ws RX8 TX8 6, x ∈ wsX8_init := by decide +kernel
  have hlnk0 := hts (.methodLink RX8 3 objectInit) (by decide +kernel)
  have hlnk1 := hts (.instanceMethod objectInit) (by decide +kernel)
  have hlnk2 := hts (.code objectInit ⟨#[0xb1]⟩ 1 none) (by decide +kernel)
  have hlnk3 := hts (.classLink RX8 9 RX6) (by decide +kernel)
  have hlnk4 := hts (.instantiable RX6 2) (by decide +kernel)
  have hlnk5 := hts (.initialized RX6) (by decide +kernel)
  have hlnk6 := hts (.instanceMethod yX6_init) (by decide +kernel)
  have hlnk7 := hts (.fieldLink RX8 12 "LentQuill$Search" "pen" "LLentQuill$Pen;") (by decide +kernel)
  have hlnk8 := hts (.arrayClass .int) (by decide +kernel)
  have hlnk9 := hts (.fieldLink RX8 18 "LentQuill$Search" "waysBound" "[I") (by decide +kernel)
  have hl : lh ls 1 [some (.ref b)] := hl
  refine xaload_n hx hb dX8_init_0 hl rfl ?_
  refine W.objInit hx hb hown hlnk0 hlnk1 hlnk2 rfl (by rw [hml]; exact hl.1) rfl dX8_init_1 (Nat.le_of_ble_eq_true rfl) (Nat.le_of_ble_eq_true rfl) ?_
  refine xaload_n hx hb dX8_init_4 hl rfl ?_
  refine xnew (C := RX6) (T := TX6) (N := 2) (fs := [.null, .int 0]) hx hb (ci := 6) hts hiX6 tyX6 tyX6_ok hown hlnk3 hlnk4 hlnk5 hG hN hw hS rfl (fun j hj => by rcases (show j = 0 ∨ j = 1 by omega) with rfl | rfl <;> rfl) (Nat.le_of_ble_eq_true rfl) (Nat.le_of_ble_eq_true rfl) hz dX8_init_5 (fun H hz hw hS => ?_)
  refine lv_dup hx hb dX8_init_8 rfl ?_
  refine xINz ⟨hx, hb, hml, hown, hts⟩ (kX6_init l N0 G _ (b + 1) (wu_eq _ _ _)) ⟨(va_cnB (host := "LentQuill") 0 hts gX8_init_X6_init_n11 rfl rfl rfl (hG.2.1 (.methodLinkNest RX8 11 yX6_init "LentQuill") (by decide +kernel)) hlnk5 (by decide +kernel) ⟨Nat.le_of_ble_eq_true rfl, Nat.le_of_ble_eq_true rfl⟩), rfl, hlnk6⟩ hG hN hw hS (by omega) rfl hl.1 rfl (Nat.le_of_ble_eq_true rfl) dX8_init_9 ⟨Nat.le_of_ble_eq_true rfl, Nat.le_of_ble_eq_true rfl⟩ (fun r9 w9 H locs hp9 hz hw hS => ?_)
  obtain ⟨hp9, hO9⟩ := hp9
  have hbb := (hO9 b (by omega)).trans ((wu_nq (by omega)).trans hb0)
  refine xputF (C := RX8) (T := TX8) (N := 6) hx hb (ci := 8) (ty := (.object "LentQuill$Pen")) hts hiX8 tyX8 tyX8_ok nmX8 hown hG hw hS (by repeat first | assumption | exact wu_eq _ _ _ | refine wu_ne (by omega) ?_) rfl 0 (by decide) hlnk7 (fun _ h9 => h9) rfl (hin0 rfl) rfl (by decide +kernel) rfl rfl (Nat.le_of_ble_eq_true rfl) dX8_init_12 (fun H locs hzz hw hS => ?_)
  have hz := hzz.trans hz
  refine xaload_n hx hb dX8_init_15 hl rfl ?_
  refine lv_iconst (v := nI 5) hx hb dX8_init_16 (by decide) ?_
  have hz : H.size = b + 3 := by omega
  refine xnewI hx hb hlnk8 hG hN hw hS (by omega) (Nat.le_of_ble_eq_true rfl) (Nat.le_of_ble_eq_true rfl) hz dX8_init_17 (fun H hz hw hS => ?_)
  refine xputF (C := RX8) (T := TX8) (N := 6) hx hb (ci := 8) (ty := (.array .int)) hts hiX8 tyX8 tyX8_ok nmX8 hown hG hw hS (by repeat first | assumption | exact wu_eq _ _ _ | refine wu_ne (by omega) ?_) rfl 1 (by decide) hlnk9 (fun _ h9 => h9) rfl (hin0 rfl) rfl (by decide +kernel) rfl rfl (Nat.le_of_ble_eq_true rfl) dX8_init_19 (fun H locs hzz hw hS => ?_)
  have hz := hzz.trans hz
  exact xvretz hx hb hr hlk hw hS (by omega) dX8_init_22 ⟨⟨fun _ => 0, wu_eq _ _ _, wu_ne (by omega) (wu_eq _ _ _), fun _ _ => rfl, ((hp9.out (Out.rf.wu (lo := b) (hi := b + 1) (Nat.le_refl _) (by omega)) (by omega)).out (Out.rf.wu (lo := b + 3) (hi := b + 4) (Nat.le_refl _) (by omega)) (by omega)).out (Out.rf.wu (lo := b) (hi := b + 1) (Nat.le_refl _) (by omega)) (by omega)⟩, ((((Out.rf.wu (by omega) (by omega)).tr hO9 (by omega) (by omega)).wu (by omega) (by omega)).wu (by omega) (by omega)).wu (by omega) (by omega)⟩
set_option maxHeartbeats 4000000 in
set_option maxRecDepth 100000 in
theorem kX4_init (l : Launch) (N0 : Nat) (G : XG) (w : Wd) (b : Nat) (hb0 : w b = some (eO 4 [.null, .int 0, .int 0, .int 0])) : XMz l yX4_init wsX4_init (rmA 4 14 239) N0 G [.ref b] w (b + 1) (b + 15) (fun _ w1 => RFair G w1 b [] [] (0, (fun _ => [0]), 0, 0) ∧ Out w w1 b (b + 15)) 14 239 := by
  refine XMz.of (cc := cX4_init) (maxL := 1) (ret := none) (by decide) rfl (Nat.le_of_ble_eq_true rfl) ?_
  intro p e s m below meth c hx hb hr hlk hin0 hml hown hts hN hz hw hG hS ls hl
  have hown : s.vm.findClass RX4 = some m.cls := hown
  have hiX2 : ∀ x ∈ u_ws RX2 TX2 7, x ∈ wsX4_init := by decide +kernel
  have hiX4 : ∀ x ∈ u_ws RX4 TX4 4, x ∈ wsX4_init := by decide +kernel
  have hlnk0 := hts (.methodLink RX4 3 objectInit) (by decide +kernel)
  have hlnk1 := hts (.instanceMethod objectInit) (by decide +kernel)
  have hlnk2 := hts (.code objectInit ⟨#[0xb1]⟩ 1 none) (by decide +kernel)
  have hlnk3 := hts (.classLink RX4 9 RX2) (by decide +kernel)
  have hlnk4 := hts (.instantiable RX2 7) (by decide +kernel)
  have hlnk5 := hts (.initialized RX2) (by decide +kernel)
  have hlnk6 := hts (.methodLink RX4 11 yX2_init) (by decide +kernel)
  have hlnk7 := hts (.instanceMethod yX2_init) (by decide +kernel)
  have hlnk8 := hts (.fieldLink RX4 12 "LentQuill$Fair" "trial" "LLentQuill$Books;") (by decide +kernel)
  have hl : lh ls 1 [some (.ref b)] := hl
  refine xaload_n hx hb dX4_init_0 hl rfl ?_
  refine W.objInit hx hb hown hlnk0 hlnk1 hlnk2 rfl (by rw [hml]; exact hl.1) rfl dX4_init_1 (Nat.le_of_ble_eq_true rfl) (Nat.le_of_ble_eq_true rfl) ?_
  refine xaload_n hx hb dX4_init_4 hl rfl ?_
  refine xnew (C := RX2) (T := TX2) (N := 7) (fs := [.null, .null, .null, .int 0, .int 0, .int 0, .int 0]) hx hb (ci := 2) hts hiX2 tyX2 tyX2_ok hown hlnk3 hlnk4 hlnk5 hG hN hw hS rfl (fun j hj => by rcases (show j = 0 ∨ j = 1 ∨ j = 2 ∨ j = 3 ∨ j = 4 ∨ j = 5 ∨ j = 6 by omega) with rfl | rfl | rfl | rfl | rfl | rfl | rfl <;> rfl) (Nat.le_of_ble_eq_true rfl) (Nat.le_of_ble_eq_true rfl) hz dX4_init_5 (fun H hz hw hS => ?_)
  refine lv_dup hx hb dX4_init_8 rfl ?_
  refine xIz ⟨hx, hb, hml, hown, hts⟩ (kX2_init l N0 G _ (b + 1) (wu_eq _ _ _)) (cwI 0 hts gX4_init_X2_init rfl rfl rfl hlnk5 hlnk6 hlnk7 rfl (by decide +kernel) ⟨Nat.le_of_ble_eq_true rfl, Nat.le_of_ble_eq_true rfl⟩) hG hN hw hS (by omega) rfl hl.1 rfl (Nat.le_of_ble_eq_true rfl) dX4_init_9 ⟨Nat.le_of_ble_eq_true rfl, Nat.le_of_ble_eq_true rfl⟩ (fun r9 w9 H locs hp9 hz hw hS => ?_)
  obtain ⟨hp9, hO9⟩ := hp9
  have hbb := (hO9 b (by omega)).trans ((wu_nq (by omega)).trans hb0)
  refine xputF (C := RX4) (T := TX4) (N := 4) hx hb (ci := 4) (ty := (.object "LentQuill$Books")) hts hiX4 tyX4 tyX4_ok nmX4 hown hG hw hS (by repeat first | assumption | exact wu_eq _ _ _ | refine wu_ne (by omega) ?_) rfl 0 (by decide) hlnk8 (fun _ h9 => h9) rfl (hin0 rfl) rfl (by decide +kernel) rfl rfl (Nat.le_of_ble_eq_true rfl) dX4_init_12 (fun H locs hzz hw hS => ?_)
  have hz := hzz.trans hz
  exact xvretz hx hb hr hlk hw hS (by omega) dX4_init_15 ⟨⟨wu_eq _ _ _, hp9.out (Out.rf.wu (lo := b) (hi := b + 1) (Nat.le_refl _) (by omega)) (by omega), by decide⟩, ((Out.rf.wu (by omega) (by omega)).tr hO9 (by omega) (by omega)).wu (by omega) (by omega)⟩
set_option maxHeartbeats 4000000 in
set_option maxRecDepth 100000 in
theorem kX11_init (l : Launch) (N0 : Nat) (G : XG) (w : Wd) (x0 Z : Nat) (hZx : x0 + 52 ≤ Z) (hb0 : w x0 = some (eO 11 [.null, .null, .null, .null, .null, .null, .int 0, .int 0, .int 0])) : XMz l yX11_init wsX11_init (rmA 5 51 803) N0 G [.ref x0] w (x0 + 1) (x0 + 52) (fun _ w1 => RLQ G w1 x0 Z S00 ∧ Out w w1 x0 (x0 + 52)) 51 803 := by
  refine XMz.of (cc := cX11_init) (maxL := 1) (ret := none) (by decide) rfl (Nat.le_of_ble_eq_true rfl) ?_
  intro p e s m below meth c hx hb hr hlk hin0 hml hown hts hN hz hw hG hS ls hl
  have hown : s.vm.findClass RX11 = some m.cls := hown
  have hiX5 : ∀ x ∈ u_ws RX5 TX5 2, x ∈ wsX11_init := by decide +kernel
  have hiX11 : ∀ x ∈ u_ws RX11 TX11 9, x ∈ wsX11_init := by decide +kernel
  have hiX10 : ∀ x ∈ u_ws RX10 TX10 3, x ∈ wsX11_init := by decide +kernel
  have hiX2 : ∀ x ∈ u_ws RX2 TX2 7, x ∈ wsX11_init := by decide +kernel
  have hiX8 : ∀ x ∈ u_ws RX8 TX8 6, x ∈ wsX11_init := by decide +kernel
  have hiX4 : ∀ x ∈ u_ws RX4 TX4 4, x ∈ wsX11_init := by decide +kernel
  have hlnk0 := hts (.methodLink RX11 1 objectInit) (by decide +kernel)
  have hlnk1 := hts (.instanceMethod objectInit) (by decide +kernel)
  have hlnk2 := hts (.code objectInit ⟨#[0xb1]⟩ 1 none) (by decide +kernel)
  have hlnk3 := hts (.classLink RX11 7 RX5) (by decide +kernel)
  have hlnk4 := hts (.instantiable RX5 2) (by decide +kernel)
  have hlnk5 := hts (.initialized RX5) (by decide +kernel)
  have hlnk6 := hts (.instanceMethod yX5_init) (by decide +kernel)
  have hlnk7 := hts (.fieldLink RX11 10 "LentQuill" "page" "LLentQuill$Page;") (by decide +kernel)
  have hlnk8 := hts (.classLink RX11 16 RX10) (by decide +kernel)
  have hlnk9 := hts (.instantiable RX10 3) (by decide +kernel)
  have hlnk10 := hts (.initialized RX10) (by decide +kernel)
  have hlnk11 := hts (.instanceMethod yX10_init) (by decide +kernel)
  have hlnk12 := hts (.fieldLink RX11 19 "LentQuill" "town" "LLentQuill$Town;") (by decide +kernel)
  have hlnk13 := hts (.classLink RX11 23 RX2) (by decide +kernel)
  have hlnk14 := hts (.instantiable RX2 7) (by decide +kernel)
  have hlnk15 := hts (.initialized RX2) (by decide +kernel)
  have hlnk16 := hts (.methodLink RX11 25 yX2_init) (by decide +kernel)
  have hlnk17 := hts (.instanceMethod yX2_init) (by decide +kernel)
  have hlnk18 := hts (.fieldLink RX11 26 "LentQuill" "books" "LLentQuill$Books;") (by decide +kernel)
  have hlnk19 := hts (.fieldLink RX11 30 "LentQuill" "image" "LLentQuill$Books;") (by decide +kernel)
  have hlnk20 := hts (.classLink RX11 33 RX8) (by decide +kernel)
  have hlnk21 := hts (.instantiable RX8 6) (by decide +kernel)
  have hlnk22 := hts (.initialized RX8) (by decide +kernel)
  have hlnk23 := hts (.instanceMethod yX8_init) (by decide +kernel)
  have hlnk24 := hts (.fieldLink RX11 36 "LentQuill" "search" "LLentQuill$Search;") (by decide +kernel)
  have hlnk25 := hts (.classLink RX11 40 RX4) (by decide +kernel)
  have hlnk26 := hts (.instantiable RX4 4) (by decide +kernel)
  have hlnk27 := hts (.initialized RX4) (by decide +kernel)
  have hlnk28 := hts (.instanceMethod yX4_init) (by decide +kernel)
  have hlnk29 := hts (.fieldLink RX11 43 "LentQuill" "fair" "LLentQuill$Fair;") (by decide +kernel)
  have hl : lh ls 1 [some (.ref x0)] := hl
  refine xaload_n hx hb dX11_init_0 hl rfl ?_
  refine W.objInit hx hb hown hlnk0 hlnk1 hlnk2 rfl (by rw [hml]; exact hl.1) rfl dX11_init_1 (Nat.le_of_ble_eq_true rfl) (Nat.le_of_ble_eq_true rfl) ?_
  refine xaload_n hx hb dX11_init_4 hl rfl ?_
  refine xnew (C := RX5) (T := TX5) (N := 2) (fs := [.null, .int 0]) hx hb (ci := 5) hts hiX5 tyX5 tyX5_ok hown hlnk3 hlnk4 hlnk5 hG hN hw hS rfl (fun j hj => by rcases (show j = 0 ∨ j = 1 by omega) with rfl | rfl <;> rfl) (Nat.le_of_ble_eq_true rfl) (Nat.le_of_ble_eq_true rfl) hz dX11_init_5 (fun H hz hw hS => ?_)
  refine lv_dup hx hb dX11_init_8 rfl ?_
  refine xINz ⟨hx, hb, hml, hown, hts⟩ (kX5_init l N0 G _ (x0 + 1) (wu_eq _ _ _)) ⟨(va_cnB (host := "LentQuill") 0 hts gX11_init_X5_init_n9 rfl rfl rfl (hG.2.1 (.methodLinkNest RX11 9 yX5_init "LentQuill") (by decide +kernel)) hlnk5 (by decide +kernel) ⟨Nat.le_of_ble_eq_true rfl, Nat.le_of_ble_eq_true rfl⟩), rfl, hlnk6⟩ hG hN hw hS (by omega) rfl hl.1 rfl (Nat.le_of_ble_eq_true rfl) dX11_init_9 ⟨Nat.le_of_ble_eq_true rfl, Nat.le_of_ble_eq_true rfl⟩ (fun r9 w9 H locs hp9 hz hw hS => ?_)
  obtain ⟨hPg, hOPg⟩ := hp9
  have hxPg := (hOPg x0 (by omega)).trans ((wu_nq (by omega)).trans hb0)
  refine xputF (C := RX11) (T := TX11) (N := 9) hx hb (ci := 11) (ty := (.object "LentQuill$Page")) hts hiX11 tyX11 tyX11_ok nmX11 hown hG hw hS (by repeat first | assumption | exact wu_eq _ _ _ | refine wu_ne (by omega) ?_) rfl 0 (by decide) hlnk7 (fun _ h9 => h9) rfl (hin0 rfl) rfl (by decide +kernel) rfl rfl (Nat.le_of_ble_eq_true rfl) dX11_init_12 (fun H locs hzz hw hS => ?_)
  have hz := hzz.trans hz
  obtain ⟨wPg, hwPge⟩ : ∃ q, q = wu w9 x0 (eO 11 [.ref (x0 + 1), .null, .null, .null, .null, .null, .int 0, .int 0, .int 0]) := ⟨_, rfl⟩
  replace hw : PW N0 G wPg H := by rw [hwPge]; exact hw
  have hyPg : wPg x0 = some (eO 11 [.ref (x0 + 1), .null, .null, .null, .null, .null, .int 0, .int 0, .int 0]) := by rw [hwPge]; exact wu_eq _ _ _
  have hUPg : Out w9 wPg x0 (x0 + 1) := by rw [hwPge]; exact Out.rf.wu (Nat.le_refl _) (by omega)
  have hNPg : Out w w9 (x0 + 1) (x0 + 3) := (Out.rf.wu (by omega) (by omega)).tr hOPg (Nat.le_refl _) (Nat.le_refl _)
  refine xaload_n hx hb dX11_init_15 hl rfl ?_
  have hz : H.size = x0 + 3 := by omega
  refine xnew (C := RX10) (T := TX10) (N := 3) (fs := [.null, .int 0, .int 0]) hx hb (ci := 10) hts hiX10 tyX10 tyX10_ok hown hlnk8 hlnk9 hlnk10 hG hN hw hS rfl (fun j hj => by rcases (show j = 0 ∨ j = 1 ∨ j = 2 by omega) with rfl | rfl | rfl <;> rfl) (Nat.le_of_ble_eq_true rfl) (Nat.le_of_ble_eq_true rfl) hz dX11_init_16 (fun H hz hw hS => ?_)
  refine lv_dup hx hb dX11_init_19 rfl ?_
  refine xINz ⟨hx, hb, hml, hown, hts⟩ (kX10_init l N0 G _ (x0 + 3) Z (wu_eq _ _ _)) ⟨(va_cnB (host := "LentQuill") 0 hts gX11_init_X10_init_n18 rfl rfl rfl (hG.2.1 (.methodLinkNest RX11 18 yX10_init "LentQuill") (by decide +kernel)) hlnk10 (by decide +kernel) ⟨Nat.le_of_ble_eq_true rfl, Nat.le_of_ble_eq_true rfl⟩), rfl, hlnk11⟩ hG hN hw hS (by omega) rfl hl.1 rfl (Nat.le_of_ble_eq_true rfl) dX11_init_20 ⟨Nat.le_of_ble_eq_true rfl, Nat.le_of_ble_eq_true rfl⟩ (fun r20 w20 H locs hp20 hz hw hS => ?_)
  obtain ⟨hTw, hOTw⟩ := hp20
  have hxTw := (hOTw x0 (by omega)).trans ((wu_nq (by omega)).trans hyPg)
  refine xputF (C := RX11) (T := TX11) (N := 9) hx hb (ci := 11) (ty := (.object "LentQuill$Town")) hts hiX11 tyX11 tyX11_ok nmX11 hown hG hw hS (by repeat first | assumption | exact wu_eq _ _ _ | refine wu_ne (by omega) ?_) rfl 1 (by decide) hlnk12 (fun _ h9 => h9) rfl (hin0 rfl) rfl (by decide +kernel) rfl rfl (Nat.le_of_ble_eq_true rfl) dX11_init_23 (fun H locs hzz hw hS => ?_)
  have hz := hzz.trans hz
  obtain ⟨wTw, hwTwe⟩ : ∃ q, q = wu w20 x0 (eO 11 [.ref (x0 + 1), .ref (x0 + 3), .null, .null, .null, .null, .int 0, .int 0, .int 0]) := ⟨_, rfl⟩
  replace hw : PW N0 G wTw H := by rw [hwTwe]; exact hw
  have hyTw : wTw x0 = some (eO 11 [.ref (x0 + 1), .ref (x0 + 3), .null, .null, .null, .null, .int 0, .int 0, .int 0]) := by rw [hwTwe]; exact wu_eq _ _ _
  have hUTw : Out w20 wTw x0 (x0 + 1) := by rw [hwTwe]; exact Out.rf.wu (Nat.le_refl _) (by omega)
  have hNTw : Out wPg w20 (x0 + 3) (x0 + 5) := (Out.rf.wu (by omega) (by omega)).tr hOTw (Nat.le_refl _) (Nat.le_refl _)
  refine xaload_n hx hb dX11_init_26 hl rfl ?_
  have hz : H.size = x0 + 5 := by omega
  refine xnew (C := RX2) (T := TX2) (N := 7) (fs := [.null, .null, .null, .int 0, .int 0, .int 0, .int 0]) hx hb (ci := 2) hts hiX2 tyX2 tyX2_ok hown hlnk13 hlnk14 hlnk15 hG hN hw hS rfl (fun j hj => by rcases (show j = 0 ∨ j = 1 ∨ j = 2 ∨ j = 3 ∨ j = 4 ∨ j = 5 ∨ j = 6 by omega) with rfl | rfl | rfl | rfl | rfl | rfl | rfl <;> rfl) (Nat.le_of_ble_eq_true rfl) (Nat.le_of_ble_eq_true rfl) hz dX11_init_27 (fun H hz hw hS => ?_)
  refine lv_dup hx hb dX11_init_30 rfl ?_
  refine xIz ⟨hx, hb, hml, hown, hts⟩ (kX2_init l N0 G _ (x0 + 5) (wu_eq _ _ _)) (cwI 0 hts gX11_init_X2_init rfl rfl rfl hlnk15 hlnk16 hlnk17 rfl (by decide +kernel) ⟨Nat.le_of_ble_eq_true rfl, Nat.le_of_ble_eq_true rfl⟩) hG hN hw hS (by omega) rfl hl.1 rfl (Nat.le_of_ble_eq_true rfl) dX11_init_31 ⟨Nat.le_of_ble_eq_true rfl, Nat.le_of_ble_eq_true rfl⟩ (fun r31 w31 H locs hp31 hz hw hS => ?_)
  obtain ⟨hBk, hOBk⟩ := hp31
  have hxBk := (hOBk x0 (by omega)).trans ((wu_nq (by omega)).trans hyTw)
  refine xputF (C := RX11) (T := TX11) (N := 9) hx hb (ci := 11) (ty := (.object "LentQuill$Books")) hts hiX11 tyX11 tyX11_ok nmX11 hown hG hw hS (by repeat first | assumption | exact wu_eq _ _ _ | refine wu_ne (by omega) ?_) rfl 2 (by decide) hlnk18 (fun _ h9 => h9) rfl (hin0 rfl) rfl (by decide +kernel) rfl rfl (Nat.le_of_ble_eq_true rfl) dX11_init_34 (fun H locs hzz hw hS => ?_)
  have hz := hzz.trans hz
  obtain ⟨wBk, hwBke⟩ : ∃ q, q = wu w31 x0 (eO 11 [.ref (x0 + 1), .ref (x0 + 3), .ref (x0 + 5), .null, .null, .null, .int 0, .int 0, .int 0]) := ⟨_, rfl⟩
  replace hw : PW N0 G wBk H := by rw [hwBke]; exact hw
  have hyBk : wBk x0 = some (eO 11 [.ref (x0 + 1), .ref (x0 + 3), .ref (x0 + 5), .null, .null, .null, .int 0, .int 0, .int 0]) := by rw [hwBke]; exact wu_eq _ _ _
  have hUBk : Out w31 wBk x0 (x0 + 1) := by rw [hwBke]; exact Out.rf.wu (Nat.le_refl _) (by omega)
  have hNBk : Out wTw w31 (x0 + 5) (x0 + 19) := (Out.rf.wu (by omega) (by omega)).tr hOBk (Nat.le_refl _) (Nat.le_refl _)
  refine xaload_n hx hb dX11_init_37 hl rfl ?_
  have hz : H.size = x0 + 19 := by omega
  refine xnew (C := RX2) (T := TX2) (N := 7) (fs := [.null, .null, .null, .int 0, .int 0, .int 0, .int 0]) hx hb (ci := 2) hts hiX2 tyX2 tyX2_ok hown hlnk13 hlnk14 hlnk15 hG hN hw hS rfl (fun j hj => by rcases (show j = 0 ∨ j = 1 ∨ j = 2 ∨ j = 3 ∨ j = 4 ∨ j = 5 ∨ j = 6 by omega) with rfl | rfl | rfl | rfl | rfl | rfl | rfl <;> rfl) (Nat.le_of_ble_eq_true rfl) (Nat.le_of_ble_eq_true rfl) hz dX11_init_38 (fun H hz hw hS => ?_)
  refine lv_dup hx hb dX11_init_41 rfl ?_
  refine xIz ⟨hx, hb, hml, hown, hts⟩ (kX2_init l N0 G _ (x0 + 19) (wu_eq _ _ _)) (cwI 0 hts gX11_init_X2_init rfl rfl rfl hlnk15 hlnk16 hlnk17 rfl (by decide +kernel) ⟨Nat.le_of_ble_eq_true rfl, Nat.le_of_ble_eq_true rfl⟩) hG hN hw hS (by omega) rfl hl.1 rfl (Nat.le_of_ble_eq_true rfl) dX11_init_42 ⟨Nat.le_of_ble_eq_true rfl, Nat.le_of_ble_eq_true rfl⟩ (fun r42 w42 H locs hp42 hz hw hS => ?_)
  obtain ⟨hIm, hOIm⟩ := hp42
  have hxIm := (hOIm x0 (by omega)).trans ((wu_nq (by omega)).trans hyBk)
  refine xputF (C := RX11) (T := TX11) (N := 9) hx hb (ci := 11) (ty := (.object "LentQuill$Books")) hts hiX11 tyX11 tyX11_ok nmX11 hown hG hw hS (by repeat first | assumption | exact wu_eq _ _ _ | refine wu_ne (by omega) ?_) rfl 3 (by decide) hlnk19 (fun _ h9 => h9) rfl (hin0 rfl) rfl (by decide +kernel) rfl rfl (Nat.le_of_ble_eq_true rfl) dX11_init_45 (fun H locs hzz hw hS => ?_)
  have hz := hzz.trans hz
  obtain ⟨wIm, hwIme⟩ : ∃ q, q = wu w42 x0 (eO 11 [.ref (x0 + 1), .ref (x0 + 3), .ref (x0 + 5), .ref (x0 + 19), .null, .null, .int 0, .int 0, .int 0]) := ⟨_, rfl⟩
  replace hw : PW N0 G wIm H := by rw [hwIme]; exact hw
  have hyIm : wIm x0 = some (eO 11 [.ref (x0 + 1), .ref (x0 + 3), .ref (x0 + 5), .ref (x0 + 19), .null, .null, .int 0, .int 0, .int 0]) := by rw [hwIme]; exact wu_eq _ _ _
  have hUIm : Out w42 wIm x0 (x0 + 1) := by rw [hwIme]; exact Out.rf.wu (Nat.le_refl _) (by omega)
  have hNIm : Out wBk w42 (x0 + 19) (x0 + 33) := (Out.rf.wu (by omega) (by omega)).tr hOIm (Nat.le_refl _) (Nat.le_refl _)
  refine xaload_n hx hb dX11_init_48 hl rfl ?_
  have hz : H.size = x0 + 33 := by omega
  refine xnew (C := RX8) (T := TX8) (N := 6) (fs := [.null, .null, .int 0, .int 0, .int 0, .int 0]) hx hb (ci := 8) hts hiX8 tyX8 tyX8_ok hown hlnk20 hlnk21 hlnk22 hG hN hw hS rfl (fun j hj => by rcases (show j = 0 ∨ j = 1 ∨ j = 2 ∨ j = 3 ∨ j = 4 ∨ j = 5 by omega) with rfl | rfl | rfl | rfl | rfl | rfl <;> rfl) (Nat.le_of_ble_eq_true rfl) (Nat.le_of_ble_eq_true rfl) hz dX11_init_49 (fun H hz hw hS => ?_)
  refine lv_dup hx hb dX11_init_52 rfl ?_
  refine xINz ⟨hx, hb, hml, hown, hts⟩ (kX8_init l N0 G _ (x0 + 33) (wu_eq _ _ _)) ⟨(va_cnB (host := "LentQuill") 0 hts gX11_init_X8_init_n35 rfl rfl rfl (hG.2.1 (.methodLinkNest RX11 35 yX8_init "LentQuill") (by decide +kernel)) hlnk22 (by decide +kernel) ⟨Nat.le_of_ble_eq_true rfl, Nat.le_of_ble_eq_true rfl⟩), rfl, hlnk23⟩ hG hN hw hS (by omega) rfl hl.1 rfl (Nat.le_of_ble_eq_true rfl) dX11_init_53 ⟨Nat.le_of_ble_eq_true rfl, Nat.le_of_ble_eq_true rfl⟩ (fun r53 w53 H locs hp53 hz hw hS => ?_)
  obtain ⟨hSr, hOSr⟩ := hp53
  have hxSr := (hOSr x0 (by omega)).trans ((wu_nq (by omega)).trans hyIm)
  refine xputF (C := RX11) (T := TX11) (N := 9) hx hb (ci := 11) (ty := (.object "LentQuill$Search")) hts hiX11 tyX11 tyX11_ok nmX11 hown hG hw hS (by repeat first | assumption | exact wu_eq _ _ _ | refine wu_ne (by omega) ?_) rfl 4 (by decide) hlnk24 (fun _ h9 => h9) rfl (hin0 rfl) rfl (by decide +kernel) rfl rfl (Nat.le_of_ble_eq_true rfl) dX11_init_56 (fun H locs hzz hw hS => ?_)
  have hz := hzz.trans hz
  obtain ⟨wSr, hwSre⟩ : ∃ q, q = wu w53 x0 (eO 11 [.ref (x0 + 1), .ref (x0 + 3), .ref (x0 + 5), .ref (x0 + 19), .ref (x0 + 33), .null, .int 0, .int 0, .int 0]) := ⟨_, rfl⟩
  replace hw : PW N0 G wSr H := by rw [hwSre]; exact hw
  have hySr : wSr x0 = some (eO 11 [.ref (x0 + 1), .ref (x0 + 3), .ref (x0 + 5), .ref (x0 + 19), .ref (x0 + 33), .null, .int 0, .int 0, .int 0]) := by rw [hwSre]; exact wu_eq _ _ _
  have hUSr : Out w53 wSr x0 (x0 + 1) := by rw [hwSre]; exact Out.rf.wu (Nat.le_refl _) (by omega)
  have hNSr : Out wIm w53 (x0 + 33) (x0 + 37) := (Out.rf.wu (by omega) (by omega)).tr hOSr (Nat.le_refl _) (Nat.le_refl _)
  refine xaload_n hx hb dX11_init_59 hl rfl ?_
  have hz : H.size = x0 + 37 := by omega
  refine xnew (C := RX4) (T := TX4) (N := 4) (fs := [.null, .int 0, .int 0, .int 0]) hx hb (ci := 4) hts hiX4 tyX4 tyX4_ok hown hlnk25 hlnk26 hlnk27 hG hN hw hS rfl (fun j hj => by rcases (show j = 0 ∨ j = 1 ∨ j = 2 ∨ j = 3 by omega) with rfl | rfl | rfl | rfl <;> rfl) (Nat.le_of_ble_eq_true rfl) (Nat.le_of_ble_eq_true rfl) hz dX11_init_60 (fun H hz hw hS => ?_)
  refine lv_dup hx hb dX11_init_63 rfl ?_
  refine xINz ⟨hx, hb, hml, hown, hts⟩ (kX4_init l N0 G _ (x0 + 37) (wu_eq _ _ _)) ⟨(va_cnB (host := "LentQuill") 0 hts gX11_init_X4_init_n42 rfl rfl rfl (hG.2.1 (.methodLinkNest RX11 42 yX4_init "LentQuill") (by decide +kernel)) hlnk27 (by decide +kernel) ⟨Nat.le_of_ble_eq_true rfl, Nat.le_of_ble_eq_true rfl⟩), rfl, hlnk28⟩ hG hN hw hS (by omega) rfl hl.1 rfl (Nat.le_of_ble_eq_true rfl) dX11_init_64 ⟨Nat.le_of_ble_eq_true rfl, Nat.le_of_ble_eq_true rfl⟩ (fun r64 w64 H locs hp64 hz hw hS => ?_)
  obtain ⟨hFr, hOFr⟩ := hp64
  have hxFr := (hOFr x0 (by omega)).trans ((wu_nq (by omega)).trans hySr)
  refine xputF (C := RX11) (T := TX11) (N := 9) hx hb (ci := 11) (ty := (.object "LentQuill$Fair")) hts hiX11 tyX11 tyX11_ok nmX11 hown hG hw hS (by repeat first | assumption | exact wu_eq _ _ _ | refine wu_ne (by omega) ?_) rfl 5 (by decide) hlnk29 (fun _ h9 => h9) rfl (hin0 rfl) rfl (by decide +kernel) rfl rfl (Nat.le_of_ble_eq_true rfl) dX11_init_67 (fun H locs hzz hw hS => ?_)
  have hz := hzz.trans hz
  obtain ⟨wFr, hwFre⟩ : ∃ q, q = wu w64 x0 (eO 11 [.ref (x0 + 1), .ref (x0 + 3), .ref (x0 + 5), .ref (x0 + 19), .ref (x0 + 33), .ref (x0 + 37), .int 0, .int 0, .int 0]) := ⟨_, rfl⟩
  replace hw : PW N0 G wFr H := by rw [hwFre]; exact hw
  have hyFr : wFr x0 = some (eO 11 [.ref (x0 + 1), .ref (x0 + 3), .ref (x0 + 5), .ref (x0 + 19), .ref (x0 + 33), .ref (x0 + 37), .int 0, .int 0, .int 0]) := by rw [hwFre]; exact wu_eq _ _ _
  have hUFr : Out w64 wFr x0 (x0 + 1) := by rw [hwFre]; exact Out.rf.wu (Nat.le_refl _) (by omega)
  have hNFr : Out wSr w64 (x0 + 37) (x0 + 52) := (Out.rf.wu (by omega) (by omega)).tr hOFr (Nat.le_refl _) (Nat.le_refl _)
  exact xvretz hx hb hr hlk hw hS (by omega) dX11_init_70 ⟨⟨hyFr, (((((((((((hPg.out hUPg (by omega)).out hNTw (by omega)).out hUTw (by omega)).out hNBk (by omega)).out hUBk (by omega)).out hNIm (by omega)).out hUIm (by omega)).out hNSr (by omega)).out hUSr (by omega)).out hNFr (by omega)).out hUFr (by omega)), (((((((((hTw.out hUTw (by omega) (by omega)).out hNBk (by omega) (by omega)).out hUBk (by omega) (by omega)).out hNIm (by omega) (by omega)).out hUIm (by omega) (by omega)).out hNSr (by omega) (by omega)).out hUSr (by omega) (by omega)).out hNFr (by omega) (by omega)).out hUFr (by omega) (by omega)), (((((((hBk.out hUBk (by omega)).out hNIm (by omega)).out hUIm (by omega)).out hNSr (by omega)).out hUSr (by omega)).out hNFr (by omega)).out hUFr (by omega)), ⟨((fun _ => [0]), [], []), (((((hIm.out hUIm (by omega)).out hNSr (by omega)).out hUSr (by omega)).out hNFr (by omega)).out hUFr (by omega)), fun B hB => by cases hB⟩, ⟨[0], (0, 0, fun _ => 0), 0, 0, (((hSr.out hUSr (by omega)).out hNFr (by omega)).out hUFr (by omega))⟩, ⟨[], [], (0, (fun _ => [0]), 0, 0), (hFr.out hUFr (by omega))⟩⟩, ((((((((((((Out.rf (w := w)).tr hNPg (by omega) (by omega)).tr hUPg (by omega) (by omega)).tr hNTw (by omega) (by omega)).tr hUTw (by omega) (by omega)).tr hNBk (by omega) (by omega)).tr hUBk (by omega) (by omega)).tr hNIm (by omega) (by omega)).tr hUIm (by omega) (by omega)).tr hNSr (by omega) (by omega)).tr hUSr (by omega) (by omega)).tr hNFr (by omega) (by omega)).tr hUFr (by omega) (by omega)⟩
set_option maxHeartbeats 4000000 in
set_option maxRecDepth 100000 in
theorem kX12_init (l : Launch) (N0 : Nat) (G : XG) (w : Wd) (M0 : Nat) (hb0 : w M0 = some (eO 12 (mfl V00))) : XMz l yX12_init wsX12_init (rmA 2 19 536) N0 G [.ref M0] w (M0 + 1) (M0 + 20) (fun _ w1 => (∃ V1, MW G w1 M0 V1 (fun _ _ => 0) ∧ RM S00 V1 (fun _ _ => 0)) ∧ Out w w1 M0 (M0 + 20)) 19 536 := by
  refine XMz.of (cc := cX12_init) (maxL := 1) (ret := none) (by decide) rfl (Nat.le_of_ble_eq_true rfl) ?_
  intro p e s m below meth c hx hb hr hlk hin0 hml hown hts hN hz hw hG hS ls hl
  have hown : s.vm.findClass RX12 = some m.cls := hown
  have hiX12 : ∀ x ∈ u_ws RX12 TX12 37, x ∈ wsX12_init := by decide +kernel
  have hlnk0 := hts (.methodLink RX12 1 objectInit) (by decide +kernel)
  have hlnk1 := hts (.instanceMethod objectInit) (by decide +kernel)
  have hlnk2 := hts (.code objectInit ⟨#[0xb1]⟩ 1 none) (by decide +kernel)
  have hlnk3 := hts (.arrayClass .int) (by decide +kernel)
  have hlnk4 := hts (.fieldLink RX12 7 "LentQuillModel" "kindOf" "[I") (by decide +kernel)
  have hlnk5 := hts (.fieldLink RX12 13 "LentQuillModel" "worthOf" "[I") (by decide +kernel)
  have hlnk6 := hts (.fieldLink RX12 16 "LentQuillModel" "handOf" "[I") (by decide +kernel)
  have hlnk7 := hts (.fieldLink RX12 19 "LentQuillModel" "lentOf" "[I") (by decide +kernel)
  have hlnk8 := hts (.fieldLink RX12 22 "LentQuillModel" "debtOf" "[I") (by decide +kernel)
  have hlnk9 := hts (.fieldLink RX12 25 "LentQuillModel" "boundOf" "[I") (by decide +kernel)
  have hlnk10 := hts (.fieldLink RX12 28 "LentQuillModel" "heardWho" "[I") (by decide +kernel)
  have hlnk11 := hts (.fieldLink RX12 31 "LentQuillModel" "heardBound" "[I") (by decide +kernel)
  have hlnk12 := hts (.arrayClass .byte) (by decide +kernel)
  have hlnk13 := hts (.fieldLink RX12 34 "LentQuillModel" "page" "[B") (by decide +kernel)
  have hlnk14 := hts (.fieldLink RX12 38 "LentQuillModel" "lastOf" "[I") (by decide +kernel)
  have hlnk15 := hts (.fieldLink RX12 41 "LentQuillModel" "lastMany" "[I") (by decide +kernel)
  have hlnk16 := hts (.fieldLink RX12 44 "LentQuillModel" "goneOf" "[I") (by decide +kernel)
  have hlnk17 := hts (.fieldLink RX12 47 "LentQuillModel" "wayBound" "[I") (by decide +kernel)
  have hlnk18 := hts (.fieldLink RX12 50 "LentQuillModel" "keptHand" "[I") (by decide +kernel)
  have hlnk19 := hts (.fieldLink RX12 53 "LentQuillModel" "keptLent" "[I") (by decide +kernel)
  have hlnk20 := hts (.fieldLink RX12 56 "LentQuillModel" "keptDebt" "[I") (by decide +kernel)
  have hlnk21 := hts (.fieldLink RX12 59 "LentQuillModel" "keptBound" "[I") (by decide +kernel)
  have hlnk22 := hts (.fieldLink RX12 62 "LentQuillModel" "keptWho" "[I") (by decide +kernel)
  have hlnk23 := hts (.fieldLink RX12 65 "LentQuillModel" "keptHeardBound" "[I") (by decide +kernel)
  have hl : lh ls 1 [some (.ref M0)] := hl
  refine xaload_n hx hb dX12_init_0 hl rfl ?_
  refine W.objInit hx hb hown hlnk0 hlnk1 hlnk2 rfl (by rw [hml]; exact hl.1) rfl dX12_init_1 (Nat.le_of_ble_eq_true rfl) (Nat.le_of_ble_eq_true rfl) ?_
  refine xaload_n hx hb dX12_init_4 hl rfl ?_
  refine lv_iconst (v := nI 5) hx hb dX12_init_5 (by decide) ?_
  refine xnewI hx hb hlnk3 hG hN hw hS (by omega) (Nat.le_of_ble_eq_true rfl) (Nat.le_of_ble_eq_true rfl) hz dX12_init_6 (fun H hz hw hS => ?_)
  refine xputMF (ty := (.array .int)) hx hb hts hiX12 hown hG hw hS (by repeat first | assumption | exact wu_eq _ _ _ | refine wu_ne (by omega) ?_) 3 (by decide) hlnk4 rfl (hin0 rfl) rfl (by decide +kernel) rfl rfl dX12_init_8 (fun H locs hzz hw hS => ?_)
  have hz := hzz.trans hz
  obtain ⟨V1, hV1e⟩ : ∃ q, q = vu V00 3 (.ref (M0 + 1)) := ⟨_, rfl⟩
  obtain ⟨w1, hw1e⟩ : ∃ q, q = wu (wu w (M0 + 1) (eI G 5 (fun _ => 0))) M0 (eO 12 (mfl V1)) := ⟨_, rfl⟩
  replace hw : PW N0 G w1 H := by rw [hw1e, hV1e]; exact hw
  have hm1 : w1 M0 = some (eO 12 (mfl V1)) := by rw [hw1e]; exact wu_eq _ _ _
  have hU1 : Out w w1 M0 (M0 + 20) ∧ ∀ a, a ≠ M0 → a ≠ M0 + 1 → w1 a = w a := by rw [hw1e]; exact ⟨(Out.rf.wu (by omega) (by omega)).wu (by omega) (by omega), fun a h1 h2 => by rw [wu_nq h1, wu_nq h2]⟩
  have ha1 : w1 (M0 + 1) = some (eI G 5 (fun _ => 0)) := by rw [hw1e]; exact wu_ne (by omega) (wu_eq _ _ _)
  refine xaload_n hx hb dX12_init_11 hl rfl ?_
  refine lv_iconst (v := nI 5) hx hb dX12_init_12 (by decide) ?_
  have hz : H.size = M0 + 2 := by omega
  refine xnewI hx hb hlnk3 hG hN hw hS (by omega) (Nat.le_of_ble_eq_true rfl) (Nat.le_of_ble_eq_true rfl) hz dX12_init_13 (fun H hz hw hS => ?_)
  refine xputMF (ty := (.array .int)) hx hb hts hiX12 hown hG hw hS (by repeat first | assumption | exact wu_eq _ _ _ | refine wu_ne (by omega) ?_) 4 (by decide) hlnk5 rfl (hin0 rfl) rfl (by decide +kernel) rfl rfl dX12_init_15 (fun H locs hzz hw hS => ?_)
  have hz := hzz.trans hz
  obtain ⟨V2, hV2e⟩ : ∃ q, q = vu V1 4 (.ref (M0 + 2)) := ⟨_, rfl⟩
  obtain ⟨w2, hw2e⟩ : ∃ q, q = wu (wu w1 (M0 + 2) (eI G 5 (fun _ => 0))) M0 (eO 12 (mfl V2)) := ⟨_, rfl⟩
  replace hw : PW N0 G w2 H := by rw [hw2e, hV2e]; exact hw
  have hm2 : w2 M0 = some (eO 12 (mfl V2)) := by rw [hw2e]; exact wu_eq _ _ _
  have hU2 : Out w1 w2 M0 (M0 + 20) ∧ ∀ a, a ≠ M0 → a ≠ M0 + 2 → w2 a = w1 a := by rw [hw2e]; exact ⟨(Out.rf.wu (by omega) (by omega)).wu (by omega) (by omega), fun a h1 h2 => by rw [wu_nq h1, wu_nq h2]⟩
  have ha2 : w2 (M0 + 2) = some (eI G 5 (fun _ => 0)) := by rw [hw2e]; exact wu_ne (by omega) (wu_eq _ _ _)
  refine xaload_n hx hb dX12_init_18 hl rfl ?_
  refine lv_sipush (v := nI 205) hx hb dX12_init_19 (by decide) ?_
  have hz : H.size = M0 + 3 := by omega
  refine xnewI hx hb hlnk3 hG hN hw hS (by omega) (Nat.le_of_ble_eq_true rfl) (Nat.le_of_ble_eq_true rfl) hz dX12_init_22 (fun H hz hw hS => ?_)
  refine xputMF (ty := (.array .int)) hx hb hts hiX12 hown hG hw hS (by repeat first | assumption | exact wu_eq _ _ _ | refine wu_ne (by omega) ?_) 5 (by decide) hlnk6 rfl (hin0 rfl) rfl (by decide +kernel) rfl rfl dX12_init_24 (fun H locs hzz hw hS => ?_)
  have hz := hzz.trans hz
  obtain ⟨V3, hV3e⟩ : ∃ q, q = vu V2 5 (.ref (M0 + 3)) := ⟨_, rfl⟩
  obtain ⟨w3, hw3e⟩ : ∃ q, q = wu (wu w2 (M0 + 3) (eI G 205 (fun _ => 0))) M0 (eO 12 (mfl V3)) := ⟨_, rfl⟩
  replace hw : PW N0 G w3 H := by rw [hw3e, hV3e]; exact hw
  have hm3 : w3 M0 = some (eO 12 (mfl V3)) := by rw [hw3e]; exact wu_eq _ _ _
  have hU3 : Out w2 w3 M0 (M0 + 20) ∧ ∀ a, a ≠ M0 → a ≠ M0 + 3 → w3 a = w2 a := by rw [hw3e]; exact ⟨(Out.rf.wu (by omega) (by omega)).wu (by omega) (by omega), fun a h1 h2 => by rw [wu_nq h1, wu_nq h2]⟩
  have ha3 : w3 (M0 + 3) = some (eI G 205 (fun _ => 0)) := by rw [hw3e]; exact wu_ne (by omega) (wu_eq _ _ _)
  refine xaload_n hx hb dX12_init_27 hl rfl ?_
  refine lv_iconst (v := nI 5) hx hb dX12_init_28 (by decide) ?_
  have hz : H.size = M0 + 4 := by omega
  refine xnewI hx hb hlnk3 hG hN hw hS (by omega) (Nat.le_of_ble_eq_true rfl) (Nat.le_of_ble_eq_true rfl) hz dX12_init_29 (fun H hz hw hS => ?_)
  refine xputMF (ty := (.array .int)) hx hb hts hiX12 hown hG hw hS (by repeat first | assumption | exact wu_eq _ _ _ | refine wu_ne (by omega) ?_) 6 (by decide) hlnk7 rfl (hin0 rfl) rfl (by decide +kernel) rfl rfl dX12_init_31 (fun H locs hzz hw hS => ?_)
  have hz := hzz.trans hz
  obtain ⟨V4, hV4e⟩ : ∃ q, q = vu V3 6 (.ref (M0 + 4)) := ⟨_, rfl⟩
  obtain ⟨w4, hw4e⟩ : ∃ q, q = wu (wu w3 (M0 + 4) (eI G 5 (fun _ => 0))) M0 (eO 12 (mfl V4)) := ⟨_, rfl⟩
  replace hw : PW N0 G w4 H := by rw [hw4e, hV4e]; exact hw
  have hm4 : w4 M0 = some (eO 12 (mfl V4)) := by rw [hw4e]; exact wu_eq _ _ _
  have hU4 : Out w3 w4 M0 (M0 + 20) ∧ ∀ a, a ≠ M0 → a ≠ M0 + 4 → w4 a = w3 a := by rw [hw4e]; exact ⟨(Out.rf.wu (by omega) (by omega)).wu (by omega) (by omega), fun a h1 h2 => by rw [wu_nq h1, wu_nq h2]⟩
  have ha4 : w4 (M0 + 4) = some (eI G 5 (fun _ => 0)) := by rw [hw4e]; exact wu_ne (by omega) (wu_eq _ _ _)
  refine xaload_n hx hb dX12_init_34 hl rfl ?_
  refine lv_bipush (v := nI 6) hx hb dX12_init_35 (by decide) ?_
  have hz : H.size = M0 + 5 := by omega
  refine xnewI hx hb hlnk3 hG hN hw hS (by omega) (Nat.le_of_ble_eq_true rfl) (Nat.le_of_ble_eq_true rfl) hz dX12_init_37 (fun H hz hw hS => ?_)
  refine xputMF (ty := (.array .int)) hx hb hts hiX12 hown hG hw hS (by repeat first | assumption | exact wu_eq _ _ _ | refine wu_ne (by omega) ?_) 8 (by decide) hlnk8 rfl (hin0 rfl) rfl (by decide +kernel) rfl rfl dX12_init_39 (fun H locs hzz hw hS => ?_)
  have hz := hzz.trans hz
  obtain ⟨V5, hV5e⟩ : ∃ q, q = vu V4 8 (.ref (M0 + 5)) := ⟨_, rfl⟩
  obtain ⟨w5, hw5e⟩ : ∃ q, q = wu (wu w4 (M0 + 5) (eI G 6 (fun _ => 0))) M0 (eO 12 (mfl V5)) := ⟨_, rfl⟩
  replace hw : PW N0 G w5 H := by rw [hw5e, hV5e]; exact hw
  have hm5 : w5 M0 = some (eO 12 (mfl V5)) := by rw [hw5e]; exact wu_eq _ _ _
  have hU5 : Out w4 w5 M0 (M0 + 20) ∧ ∀ a, a ≠ M0 → a ≠ M0 + 5 → w5 a = w4 a := by rw [hw5e]; exact ⟨(Out.rf.wu (by omega) (by omega)).wu (by omega) (by omega), fun a h1 h2 => by rw [wu_nq h1, wu_nq h2]⟩
  have ha5 : w5 (M0 + 5) = some (eI G 6 (fun _ => 0)) := by rw [hw5e]; exact wu_ne (by omega) (wu_eq _ _ _)
  refine xaload_n hx hb dX12_init_42 hl rfl ?_
  refine lv_bipush (v := nI 6) hx hb dX12_init_43 (by decide) ?_
  have hz : H.size = M0 + 6 := by omega
  refine xnewI hx hb hlnk3 hG hN hw hS (by omega) (Nat.le_of_ble_eq_true rfl) (Nat.le_of_ble_eq_true rfl) hz dX12_init_45 (fun H hz hw hS => ?_)
  refine xputMF (ty := (.array .int)) hx hb hts hiX12 hown hG hw hS (by repeat first | assumption | exact wu_eq _ _ _ | refine wu_ne (by omega) ?_) 9 (by decide) hlnk9 rfl (hin0 rfl) rfl (by decide +kernel) rfl rfl dX12_init_47 (fun H locs hzz hw hS => ?_)
  have hz := hzz.trans hz
  obtain ⟨V6, hV6e⟩ : ∃ q, q = vu V5 9 (.ref (M0 + 6)) := ⟨_, rfl⟩
  obtain ⟨w6, hw6e⟩ : ∃ q, q = wu (wu w5 (M0 + 6) (eI G 6 (fun _ => 0))) M0 (eO 12 (mfl V6)) := ⟨_, rfl⟩
  replace hw : PW N0 G w6 H := by rw [hw6e, hV6e]; exact hw
  have hm6 : w6 M0 = some (eO 12 (mfl V6)) := by rw [hw6e]; exact wu_eq _ _ _
  have hU6 : Out w5 w6 M0 (M0 + 20) ∧ ∀ a, a ≠ M0 → a ≠ M0 + 6 → w6 a = w5 a := by rw [hw6e]; exact ⟨(Out.rf.wu (by omega) (by omega)).wu (by omega) (by omega), fun a h1 h2 => by rw [wu_nq h1, wu_nq h2]⟩
  have ha6 : w6 (M0 + 6) = some (eI G 6 (fun _ => 0)) := by rw [hw6e]; exact wu_ne (by omega) (wu_eq _ _ _)
  refine xaload_n hx hb dX12_init_50 hl rfl ?_
  refine lv_bipush (v := nI 6) hx hb dX12_init_51 (by decide) ?_
  have hz : H.size = M0 + 7 := by omega
  refine xnewI hx hb hlnk3 hG hN hw hS (by omega) (Nat.le_of_ble_eq_true rfl) (Nat.le_of_ble_eq_true rfl) hz dX12_init_53 (fun H hz hw hS => ?_)
  refine xputMF (ty := (.array .int)) hx hb hts hiX12 hown hG hw hS (by repeat first | assumption | exact wu_eq _ _ _ | refine wu_ne (by omega) ?_) 11 (by decide) hlnk10 rfl (hin0 rfl) rfl (by decide +kernel) rfl rfl dX12_init_55 (fun H locs hzz hw hS => ?_)
  have hz := hzz.trans hz
  obtain ⟨V7, hV7e⟩ : ∃ q, q = vu V6 11 (.ref (M0 + 7)) := ⟨_, rfl⟩
  obtain ⟨w7, hw7e⟩ : ∃ q, q = wu (wu w6 (M0 + 7) (eI G 6 (fun _ => 0))) M0 (eO 12 (mfl V7)) := ⟨_, rfl⟩
  replace hw : PW N0 G w7 H := by rw [hw7e, hV7e]; exact hw
  have hm7 : w7 M0 = some (eO 12 (mfl V7)) := by rw [hw7e]; exact wu_eq _ _ _
  have hU7 : Out w6 w7 M0 (M0 + 20) ∧ ∀ a, a ≠ M0 → a ≠ M0 + 7 → w7 a = w6 a := by rw [hw7e]; exact ⟨(Out.rf.wu (by omega) (by omega)).wu (by omega) (by omega), fun a h1 h2 => by rw [wu_nq h1, wu_nq h2]⟩
  have ha7 : w7 (M0 + 7) = some (eI G 6 (fun _ => 0)) := by rw [hw7e]; exact wu_ne (by omega) (wu_eq _ _ _)
  refine xaload_n hx hb dX12_init_58 hl rfl ?_
  refine lv_bipush (v := nI 6) hx hb dX12_init_59 (by decide) ?_
  have hz : H.size = M0 + 8 := by omega
  refine xnewI hx hb hlnk3 hG hN hw hS (by omega) (Nat.le_of_ble_eq_true rfl) (Nat.le_of_ble_eq_true rfl) hz dX12_init_61 (fun H hz hw hS => ?_)
  refine xputMF (ty := (.array .int)) hx hb hts hiX12 hown hG hw hS (by repeat first | assumption | exact wu_eq _ _ _ | refine wu_ne (by omega) ?_) 12 (by decide) hlnk11 rfl (hin0 rfl) rfl (by decide +kernel) rfl rfl dX12_init_63 (fun H locs hzz hw hS => ?_)
  have hz := hzz.trans hz
  obtain ⟨V8, hV8e⟩ : ∃ q, q = vu V7 12 (.ref (M0 + 8)) := ⟨_, rfl⟩
  obtain ⟨w8, hw8e⟩ : ∃ q, q = wu (wu w7 (M0 + 8) (eI G 6 (fun _ => 0))) M0 (eO 12 (mfl V8)) := ⟨_, rfl⟩
  replace hw : PW N0 G w8 H := by rw [hw8e, hV8e]; exact hw
  have hm8 : w8 M0 = some (eO 12 (mfl V8)) := by rw [hw8e]; exact wu_eq _ _ _
  have hU8 : Out w7 w8 M0 (M0 + 20) ∧ ∀ a, a ≠ M0 → a ≠ M0 + 8 → w8 a = w7 a := by rw [hw8e]; exact ⟨(Out.rf.wu (by omega) (by omega)).wu (by omega) (by omega), fun a h1 h2 => by rw [wu_nq h1, wu_nq h2]⟩
  have ha8 : w8 (M0 + 8) = some (eI G 6 (fun _ => 0)) := by rw [hw8e]; exact wu_ne (by omega) (wu_eq _ _ _)
  refine xaload_n hx hb dX12_init_66 hl rfl ?_
  refine lv_bipush (v := nI 18) hx hb dX12_init_67 (by decide) ?_
  have hz : H.size = M0 + 9 := by omega
  refine xnewB hx hb hlnk12 hG hN hw hS (by omega) (Nat.le_of_ble_eq_true rfl) (Nat.le_of_ble_eq_true rfl) hz dX12_init_69 (fun H hz hw hS => ?_)
  refine xputMF (ty := (.array .byte)) hx hb hts hiX12 hown hG hw hS (by repeat first | assumption | exact wu_eq _ _ _ | refine wu_ne (by omega) ?_) 15 (by decide) hlnk13 rfl (hin0 rfl) rfl (by decide +kernel) rfl rfl dX12_init_71 (fun H locs hzz hw hS => ?_)
  have hz := hzz.trans hz
  obtain ⟨V9, hV9e⟩ : ∃ q, q = vu V8 15 (.ref (M0 + 9)) := ⟨_, rfl⟩
  obtain ⟨w9, hw9e⟩ : ∃ q, q = wu (wu w8 (M0 + 9) (eB G 18 (fun _ => 0))) M0 (eO 12 (mfl V9)) := ⟨_, rfl⟩
  replace hw : PW N0 G w9 H := by rw [hw9e, hV9e]; exact hw
  have hm9 : w9 M0 = some (eO 12 (mfl V9)) := by rw [hw9e]; exact wu_eq _ _ _
  have hU9 : Out w8 w9 M0 (M0 + 20) ∧ ∀ a, a ≠ M0 → a ≠ M0 + 9 → w9 a = w8 a := by rw [hw9e]; exact ⟨(Out.rf.wu (by omega) (by omega)).wu (by omega) (by omega), fun a h1 h2 => by rw [wu_nq h1, wu_nq h2]⟩
  have ha9 : w9 (M0 + 9) = some (eB G 18 (fun _ => 0)) := by rw [hw9e]; exact wu_ne (by omega) (wu_eq _ _ _)
  refine xaload_n hx hb dX12_init_74 hl rfl ?_
  refine lv_bipush (v := nI 25) hx hb dX12_init_75 (by decide) ?_
  have hz : H.size = M0 + 10 := by omega
  refine xnewI hx hb hlnk3 hG hN hw hS (by omega) (Nat.le_of_ble_eq_true rfl) (Nat.le_of_ble_eq_true rfl) hz dX12_init_77 (fun H hz hw hS => ?_)
  refine xputMF (ty := (.array .int)) hx hb hts hiX12 hown hG hw hS (by repeat first | assumption | exact wu_eq _ _ _ | refine wu_ne (by omega) ?_) 18 (by decide) hlnk14 rfl (hin0 rfl) rfl (by decide +kernel) rfl rfl dX12_init_79 (fun H locs hzz hw hS => ?_)
  have hz := hzz.trans hz
  obtain ⟨V10, hV10e⟩ : ∃ q, q = vu V9 18 (.ref (M0 + 10)) := ⟨_, rfl⟩
  obtain ⟨w10, hw10e⟩ : ∃ q, q = wu (wu w9 (M0 + 10) (eI G 25 (fun _ => 0))) M0 (eO 12 (mfl V10)) := ⟨_, rfl⟩
  replace hw : PW N0 G w10 H := by rw [hw10e, hV10e]; exact hw
  have hm10 : w10 M0 = some (eO 12 (mfl V10)) := by rw [hw10e]; exact wu_eq _ _ _
  have hU10 : Out w9 w10 M0 (M0 + 20) ∧ ∀ a, a ≠ M0 → a ≠ M0 + 10 → w10 a = w9 a := by rw [hw10e]; exact ⟨(Out.rf.wu (by omega) (by omega)).wu (by omega) (by omega), fun a h1 h2 => by rw [wu_nq h1, wu_nq h2]⟩
  have ha10 : w10 (M0 + 10) = some (eI G 25 (fun _ => 0)) := by rw [hw10e]; exact wu_ne (by omega) (wu_eq _ _ _)
  refine xaload_n hx hb dX12_init_82 hl rfl ?_
  refine lv_iconst (v := nI 5) hx hb dX12_init_83 (by decide) ?_
  have hz : H.size = M0 + 11 := by omega
  refine xnewI hx hb hlnk3 hG hN hw hS (by omega) (Nat.le_of_ble_eq_true rfl) (Nat.le_of_ble_eq_true rfl) hz dX12_init_84 (fun H hz hw hS => ?_)
  refine xputMF (ty := (.array .int)) hx hb hts hiX12 hown hG hw hS (by repeat first | assumption | exact wu_eq _ _ _ | refine wu_ne (by omega) ?_) 19 (by decide) hlnk15 rfl (hin0 rfl) rfl (by decide +kernel) rfl rfl dX12_init_86 (fun H locs hzz hw hS => ?_)
  have hz := hzz.trans hz
  obtain ⟨V11, hV11e⟩ : ∃ q, q = vu V10 19 (.ref (M0 + 11)) := ⟨_, rfl⟩
  obtain ⟨w11, hw11e⟩ : ∃ q, q = wu (wu w10 (M0 + 11) (eI G 5 (fun _ => 0))) M0 (eO 12 (mfl V11)) := ⟨_, rfl⟩
  replace hw : PW N0 G w11 H := by rw [hw11e, hV11e]; exact hw
  have hm11 : w11 M0 = some (eO 12 (mfl V11)) := by rw [hw11e]; exact wu_eq _ _ _
  have hU11 : Out w10 w11 M0 (M0 + 20) ∧ ∀ a, a ≠ M0 → a ≠ M0 + 11 → w11 a = w10 a := by rw [hw11e]; exact ⟨(Out.rf.wu (by omega) (by omega)).wu (by omega) (by omega), fun a h1 h2 => by rw [wu_nq h1, wu_nq h2]⟩
  have ha11 : w11 (M0 + 11) = some (eI G 5 (fun _ => 0)) := by rw [hw11e]; exact wu_ne (by omega) (wu_eq _ _ _)
  refine xaload_n hx hb dX12_init_89 hl rfl ?_
  refine lv_iconst (v := nI 5) hx hb dX12_init_90 (by decide) ?_
  have hz : H.size = M0 + 12 := by omega
  refine xnewI hx hb hlnk3 hG hN hw hS (by omega) (Nat.le_of_ble_eq_true rfl) (Nat.le_of_ble_eq_true rfl) hz dX12_init_91 (fun H hz hw hS => ?_)
  refine xputMF (ty := (.array .int)) hx hb hts hiX12 hown hG hw hS (by repeat first | assumption | exact wu_eq _ _ _ | refine wu_ne (by omega) ?_) 20 (by decide) hlnk16 rfl (hin0 rfl) rfl (by decide +kernel) rfl rfl dX12_init_93 (fun H locs hzz hw hS => ?_)
  have hz := hzz.trans hz
  obtain ⟨V12, hV12e⟩ : ∃ q, q = vu V11 20 (.ref (M0 + 12)) := ⟨_, rfl⟩
  obtain ⟨w12, hw12e⟩ : ∃ q, q = wu (wu w11 (M0 + 12) (eI G 5 (fun _ => 0))) M0 (eO 12 (mfl V12)) := ⟨_, rfl⟩
  replace hw : PW N0 G w12 H := by rw [hw12e, hV12e]; exact hw
  have hm12 : w12 M0 = some (eO 12 (mfl V12)) := by rw [hw12e]; exact wu_eq _ _ _
  have hU12 : Out w11 w12 M0 (M0 + 20) ∧ ∀ a, a ≠ M0 → a ≠ M0 + 12 → w12 a = w11 a := by rw [hw12e]; exact ⟨(Out.rf.wu (by omega) (by omega)).wu (by omega) (by omega), fun a h1 h2 => by rw [wu_nq h1, wu_nq h2]⟩
  have ha12 : w12 (M0 + 12) = some (eI G 5 (fun _ => 0)) := by rw [hw12e]; exact wu_ne (by omega) (wu_eq _ _ _)
  refine xaload_n hx hb dX12_init_96 hl rfl ?_
  refine lv_iconst (v := nI 5) hx hb dX12_init_97 (by decide) ?_
  have hz : H.size = M0 + 13 := by omega
  refine xnewI hx hb hlnk3 hG hN hw hS (by omega) (Nat.le_of_ble_eq_true rfl) (Nat.le_of_ble_eq_true rfl) hz dX12_init_98 (fun H hz hw hS => ?_)
  refine xputMF (ty := (.array .int)) hx hb hts hiX12 hown hG hw hS (by repeat first | assumption | exact wu_eq _ _ _ | refine wu_ne (by omega) ?_) 24 (by decide) hlnk17 rfl (hin0 rfl) rfl (by decide +kernel) rfl rfl dX12_init_100 (fun H locs hzz hw hS => ?_)
  have hz := hzz.trans hz
  obtain ⟨V13, hV13e⟩ : ∃ q, q = vu V12 24 (.ref (M0 + 13)) := ⟨_, rfl⟩
  obtain ⟨w13, hw13e⟩ : ∃ q, q = wu (wu w12 (M0 + 13) (eI G 5 (fun _ => 0))) M0 (eO 12 (mfl V13)) := ⟨_, rfl⟩
  replace hw : PW N0 G w13 H := by rw [hw13e, hV13e]; exact hw
  have hm13 : w13 M0 = some (eO 12 (mfl V13)) := by rw [hw13e]; exact wu_eq _ _ _
  have hU13 : Out w12 w13 M0 (M0 + 20) ∧ ∀ a, a ≠ M0 → a ≠ M0 + 13 → w13 a = w12 a := by rw [hw13e]; exact ⟨(Out.rf.wu (by omega) (by omega)).wu (by omega) (by omega), fun a h1 h2 => by rw [wu_nq h1, wu_nq h2]⟩
  have ha13 : w13 (M0 + 13) = some (eI G 5 (fun _ => 0)) := by rw [hw13e]; exact wu_ne (by omega) (wu_eq _ _ _)
  refine xaload_n hx hb dX12_init_103 hl rfl ?_
  refine lv_sipush (v := nI 205) hx hb dX12_init_104 (by decide) ?_
  have hz : H.size = M0 + 14 := by omega
  refine xnewI hx hb hlnk3 hG hN hw hS (by omega) (Nat.le_of_ble_eq_true rfl) (Nat.le_of_ble_eq_true rfl) hz dX12_init_107 (fun H hz hw hS => ?_)
  refine xputMF (ty := (.array .int)) hx hb hts hiX12 hown hG hw hS (by repeat first | assumption | exact wu_eq _ _ _ | refine wu_ne (by omega) ?_) 30 (by decide) hlnk18 rfl (hin0 rfl) rfl (by decide +kernel) rfl rfl dX12_init_109 (fun H locs hzz hw hS => ?_)
  have hz := hzz.trans hz
  obtain ⟨V14, hV14e⟩ : ∃ q, q = vu V13 30 (.ref (M0 + 14)) := ⟨_, rfl⟩
  obtain ⟨w14, hw14e⟩ : ∃ q, q = wu (wu w13 (M0 + 14) (eI G 205 (fun _ => 0))) M0 (eO 12 (mfl V14)) := ⟨_, rfl⟩
  replace hw : PW N0 G w14 H := by rw [hw14e, hV14e]; exact hw
  have hm14 : w14 M0 = some (eO 12 (mfl V14)) := by rw [hw14e]; exact wu_eq _ _ _
  have hU14 : Out w13 w14 M0 (M0 + 20) ∧ ∀ a, a ≠ M0 → a ≠ M0 + 14 → w14 a = w13 a := by rw [hw14e]; exact ⟨(Out.rf.wu (by omega) (by omega)).wu (by omega) (by omega), fun a h1 h2 => by rw [wu_nq h1, wu_nq h2]⟩
  have ha14 : w14 (M0 + 14) = some (eI G 205 (fun _ => 0)) := by rw [hw14e]; exact wu_ne (by omega) (wu_eq _ _ _)
  refine xaload_n hx hb dX12_init_112 hl rfl ?_
  refine lv_iconst (v := nI 5) hx hb dX12_init_113 (by decide) ?_
  have hz : H.size = M0 + 15 := by omega
  refine xnewI hx hb hlnk3 hG hN hw hS (by omega) (Nat.le_of_ble_eq_true rfl) (Nat.le_of_ble_eq_true rfl) hz dX12_init_114 (fun H hz hw hS => ?_)
  refine xputMF (ty := (.array .int)) hx hb hts hiX12 hown hG hw hS (by repeat first | assumption | exact wu_eq _ _ _ | refine wu_ne (by omega) ?_) 31 (by decide) hlnk19 rfl (hin0 rfl) rfl (by decide +kernel) rfl rfl dX12_init_116 (fun H locs hzz hw hS => ?_)
  have hz := hzz.trans hz
  obtain ⟨V15, hV15e⟩ : ∃ q, q = vu V14 31 (.ref (M0 + 15)) := ⟨_, rfl⟩
  obtain ⟨w15, hw15e⟩ : ∃ q, q = wu (wu w14 (M0 + 15) (eI G 5 (fun _ => 0))) M0 (eO 12 (mfl V15)) := ⟨_, rfl⟩
  replace hw : PW N0 G w15 H := by rw [hw15e, hV15e]; exact hw
  have hm15 : w15 M0 = some (eO 12 (mfl V15)) := by rw [hw15e]; exact wu_eq _ _ _
  have hU15 : Out w14 w15 M0 (M0 + 20) ∧ ∀ a, a ≠ M0 → a ≠ M0 + 15 → w15 a = w14 a := by rw [hw15e]; exact ⟨(Out.rf.wu (by omega) (by omega)).wu (by omega) (by omega), fun a h1 h2 => by rw [wu_nq h1, wu_nq h2]⟩
  have ha15 : w15 (M0 + 15) = some (eI G 5 (fun _ => 0)) := by rw [hw15e]; exact wu_ne (by omega) (wu_eq _ _ _)
  refine xaload_n hx hb dX12_init_119 hl rfl ?_
  refine lv_bipush (v := nI 6) hx hb dX12_init_120 (by decide) ?_
  have hz : H.size = M0 + 16 := by omega
  refine xnewI hx hb hlnk3 hG hN hw hS (by omega) (Nat.le_of_ble_eq_true rfl) (Nat.le_of_ble_eq_true rfl) hz dX12_init_122 (fun H hz hw hS => ?_)
  refine xputMF (ty := (.array .int)) hx hb hts hiX12 hown hG hw hS (by repeat first | assumption | exact wu_eq _ _ _ | refine wu_ne (by omega) ?_) 32 (by decide) hlnk20 rfl (hin0 rfl) rfl (by decide +kernel) rfl rfl dX12_init_124 (fun H locs hzz hw hS => ?_)
  have hz := hzz.trans hz
  obtain ⟨V16, hV16e⟩ : ∃ q, q = vu V15 32 (.ref (M0 + 16)) := ⟨_, rfl⟩
  obtain ⟨w16, hw16e⟩ : ∃ q, q = wu (wu w15 (M0 + 16) (eI G 6 (fun _ => 0))) M0 (eO 12 (mfl V16)) := ⟨_, rfl⟩
  replace hw : PW N0 G w16 H := by rw [hw16e, hV16e]; exact hw
  have hm16 : w16 M0 = some (eO 12 (mfl V16)) := by rw [hw16e]; exact wu_eq _ _ _
  have hU16 : Out w15 w16 M0 (M0 + 20) ∧ ∀ a, a ≠ M0 → a ≠ M0 + 16 → w16 a = w15 a := by rw [hw16e]; exact ⟨(Out.rf.wu (by omega) (by omega)).wu (by omega) (by omega), fun a h1 h2 => by rw [wu_nq h1, wu_nq h2]⟩
  have ha16 : w16 (M0 + 16) = some (eI G 6 (fun _ => 0)) := by rw [hw16e]; exact wu_ne (by omega) (wu_eq _ _ _)
  refine xaload_n hx hb dX12_init_127 hl rfl ?_
  refine lv_bipush (v := nI 6) hx hb dX12_init_128 (by decide) ?_
  have hz : H.size = M0 + 17 := by omega
  refine xnewI hx hb hlnk3 hG hN hw hS (by omega) (Nat.le_of_ble_eq_true rfl) (Nat.le_of_ble_eq_true rfl) hz dX12_init_130 (fun H hz hw hS => ?_)
  refine xputMF (ty := (.array .int)) hx hb hts hiX12 hown hG hw hS (by repeat first | assumption | exact wu_eq _ _ _ | refine wu_ne (by omega) ?_) 33 (by decide) hlnk21 rfl (hin0 rfl) rfl (by decide +kernel) rfl rfl dX12_init_132 (fun H locs hzz hw hS => ?_)
  have hz := hzz.trans hz
  obtain ⟨V17, hV17e⟩ : ∃ q, q = vu V16 33 (.ref (M0 + 17)) := ⟨_, rfl⟩
  obtain ⟨w17, hw17e⟩ : ∃ q, q = wu (wu w16 (M0 + 17) (eI G 6 (fun _ => 0))) M0 (eO 12 (mfl V17)) := ⟨_, rfl⟩
  replace hw : PW N0 G w17 H := by rw [hw17e, hV17e]; exact hw
  have hm17 : w17 M0 = some (eO 12 (mfl V17)) := by rw [hw17e]; exact wu_eq _ _ _
  have hU17 : Out w16 w17 M0 (M0 + 20) ∧ ∀ a, a ≠ M0 → a ≠ M0 + 17 → w17 a = w16 a := by rw [hw17e]; exact ⟨(Out.rf.wu (by omega) (by omega)).wu (by omega) (by omega), fun a h1 h2 => by rw [wu_nq h1, wu_nq h2]⟩
  have ha17 : w17 (M0 + 17) = some (eI G 6 (fun _ => 0)) := by rw [hw17e]; exact wu_ne (by omega) (wu_eq _ _ _)
  refine xaload_n hx hb dX12_init_135 hl rfl ?_
  refine lv_bipush (v := nI 6) hx hb dX12_init_136 (by decide) ?_
  have hz : H.size = M0 + 18 := by omega
  refine xnewI hx hb hlnk3 hG hN hw hS (by omega) (Nat.le_of_ble_eq_true rfl) (Nat.le_of_ble_eq_true rfl) hz dX12_init_138 (fun H hz hw hS => ?_)
  refine xputMF (ty := (.array .int)) hx hb hts hiX12 hown hG hw hS (by repeat first | assumption | exact wu_eq _ _ _ | refine wu_ne (by omega) ?_) 34 (by decide) hlnk22 rfl (hin0 rfl) rfl (by decide +kernel) rfl rfl dX12_init_140 (fun H locs hzz hw hS => ?_)
  have hz := hzz.trans hz
  obtain ⟨V18, hV18e⟩ : ∃ q, q = vu V17 34 (.ref (M0 + 18)) := ⟨_, rfl⟩
  obtain ⟨w18, hw18e⟩ : ∃ q, q = wu (wu w17 (M0 + 18) (eI G 6 (fun _ => 0))) M0 (eO 12 (mfl V18)) := ⟨_, rfl⟩
  replace hw : PW N0 G w18 H := by rw [hw18e, hV18e]; exact hw
  have hm18 : w18 M0 = some (eO 12 (mfl V18)) := by rw [hw18e]; exact wu_eq _ _ _
  have hU18 : Out w17 w18 M0 (M0 + 20) ∧ ∀ a, a ≠ M0 → a ≠ M0 + 18 → w18 a = w17 a := by rw [hw18e]; exact ⟨(Out.rf.wu (by omega) (by omega)).wu (by omega) (by omega), fun a h1 h2 => by rw [wu_nq h1, wu_nq h2]⟩
  have ha18 : w18 (M0 + 18) = some (eI G 6 (fun _ => 0)) := by rw [hw18e]; exact wu_ne (by omega) (wu_eq _ _ _)
  refine xaload_n hx hb dX12_init_143 hl rfl ?_
  refine lv_bipush (v := nI 6) hx hb dX12_init_144 (by decide) ?_
  have hz : H.size = M0 + 19 := by omega
  refine xnewI hx hb hlnk3 hG hN hw hS (by omega) (Nat.le_of_ble_eq_true rfl) (Nat.le_of_ble_eq_true rfl) hz dX12_init_146 (fun H hz hw hS => ?_)
  refine xputMF (ty := (.array .int)) hx hb hts hiX12 hown hG hw hS (by repeat first | assumption | exact wu_eq _ _ _ | refine wu_ne (by omega) ?_) 35 (by decide) hlnk23 rfl (hin0 rfl) rfl (by decide +kernel) rfl rfl dX12_init_148 (fun H locs hzz hw hS => ?_)
  have hz := hzz.trans hz
  obtain ⟨V19, hV19e⟩ : ∃ q, q = vu V18 35 (.ref (M0 + 19)) := ⟨_, rfl⟩
  obtain ⟨w19, hw19e⟩ : ∃ q, q = wu (wu w18 (M0 + 19) (eI G 6 (fun _ => 0))) M0 (eO 12 (mfl V19)) := ⟨_, rfl⟩
  replace hw : PW N0 G w19 H := by rw [hw19e, hV19e]; exact hw
  have hm19 : w19 M0 = some (eO 12 (mfl V19)) := by rw [hw19e]; exact wu_eq _ _ _
  have hU19 : Out w18 w19 M0 (M0 + 20) ∧ ∀ a, a ≠ M0 → a ≠ M0 + 19 → w19 a = w18 a := by rw [hw19e]; exact ⟨(Out.rf.wu (by omega) (by omega)).wu (by omega) (by omega), fun a h1 h2 => by rw [wu_nq h1, wu_nq h2]⟩
  have ha19 : w19 (M0 + 19) = some (eI G 6 (fun _ => 0)) := by rw [hw19e]; exact wu_ne (by omega) (wu_eq _ _ _)
  exact xvretz hx hb hr hlk hw hS (by omega) dX12_init_151 ⟨⟨V19, ⟨hm19, ⟨by rw [hV19e, hV18e, hV17e, hV16e, hV15e, hV14e, hV13e, hV12e, hV11e, hV10e, hV9e, hV8e, hV7e, hV6e, hV5e, hV4e, hV3e, hV2e, hV1e]; repeat first | exact vu_eq _ _ _ | refine vu_ne (by decide) ?_, by rw [hV19e, hV18e, hV17e, hV16e, hV15e, hV14e, hV13e, hV12e, hV11e, hV10e, hV9e, hV8e, hV7e, hV6e, hV5e, hV4e, hV3e, hV2e, hV1e]; repeat first | exact vu_eq _ _ _ | refine vu_ne (by decide) ?_, by rw [hV19e, hV18e, hV17e, hV16e, hV15e, hV14e, hV13e, hV12e, hV11e, hV10e, hV9e, hV8e, hV7e, hV6e, hV5e, hV4e, hV3e, hV2e, hV1e]; repeat first | exact vu_eq _ _ _ | refine vu_ne (by decide) ?_, by rw [hV19e, hV18e, hV17e, hV16e, hV15e, hV14e, hV13e, hV12e, hV11e, hV10e, hV9e, hV8e, hV7e, hV6e, hV5e, hV4e, hV3e, hV2e, hV1e]; repeat first | exact vu_eq _ _ _ | refine vu_ne (by decide) ?_, by rw [hV19e, hV18e, hV17e, hV16e, hV15e, hV14e, hV13e, hV12e, hV11e, hV10e, hV9e, hV8e, hV7e, hV6e, hV5e, hV4e, hV3e, hV2e, hV1e]; repeat first | exact vu_eq _ _ _ | refine vu_ne (by decide) ?_, by rw [hV19e, hV18e, hV17e, hV16e, hV15e, hV14e, hV13e, hV12e, hV11e, hV10e, hV9e, hV8e, hV7e, hV6e, hV5e, hV4e, hV3e, hV2e, hV1e]; repeat first | exact vu_eq _ _ _ | refine vu_ne (by decide) ?_, by rw [hV19e, hV18e, hV17e, hV16e, hV15e, hV14e, hV13e, hV12e, hV11e, hV10e, hV9e, hV8e, hV7e, hV6e, hV5e, hV4e, hV3e, hV2e, hV1e]; repeat first | exact vu_eq _ _ _ | refine vu_ne (by decide) ?_, by rw [hV19e, hV18e, hV17e, hV16e, hV15e, hV14e, hV13e, hV12e, hV11e, hV10e, hV9e, hV8e, hV7e, hV6e, hV5e, hV4e, hV3e, hV2e, hV1e]; repeat first | exact vu_eq _ _ _ | refine vu_ne (by decide) ?_, by rw [hV19e, hV18e, hV17e, hV16e, hV15e, hV14e, hV13e, hV12e, hV11e, hV10e, hV9e, hV8e, hV7e, hV6e, hV5e, hV4e, hV3e, hV2e, hV1e]; repeat first | exact vu_eq _ _ _ | refine vu_ne (by decide) ?_, by rw [hV19e, hV18e, hV17e, hV16e, hV15e, hV14e, hV13e, hV12e, hV11e, hV10e, hV9e, hV8e, hV7e, hV6e, hV5e, hV4e, hV3e, hV2e, hV1e]; repeat first | exact vu_eq _ _ _ | refine vu_ne (by decide) ?_, by rw [hV19e, hV18e, hV17e, hV16e, hV15e, hV14e, hV13e, hV12e, hV11e, hV10e, hV9e, hV8e, hV7e, hV6e, hV5e, hV4e, hV3e, hV2e, hV1e]; repeat first | exact vu_eq _ _ _ | refine vu_ne (by decide) ?_, by rw [hV19e, hV18e, hV17e, hV16e, hV15e, hV14e, hV13e, hV12e, hV11e, hV10e, hV9e, hV8e, hV7e, hV6e, hV5e, hV4e, hV3e, hV2e, hV1e]; repeat first | exact vu_eq _ _ _ | refine vu_ne (by decide) ?_, by rw [hV19e, hV18e, hV17e, hV16e, hV15e, hV14e, hV13e, hV12e, hV11e, hV10e, hV9e, hV8e, hV7e, hV6e, hV5e, hV4e, hV3e, hV2e, hV1e]; repeat first | exact vu_eq _ _ _ | refine vu_ne (by decide) ?_, by rw [hV19e, hV18e, hV17e, hV16e, hV15e, hV14e, hV13e, hV12e, hV11e, hV10e, hV9e, hV8e, hV7e, hV6e, hV5e, hV4e, hV3e, hV2e, hV1e]; repeat first | exact vu_eq _ _ _ | refine vu_ne (by decide) ?_, by rw [hV19e, hV18e, hV17e, hV16e, hV15e, hV14e, hV13e, hV12e, hV11e, hV10e, hV9e, hV8e, hV7e, hV6e, hV5e, hV4e, hV3e, hV2e, hV1e]; repeat first | exact vu_eq _ _ _ | refine vu_ne (by decide) ?_, by rw [hV19e, hV18e, hV17e, hV16e, hV15e, hV14e, hV13e, hV12e, hV11e, hV10e, hV9e, hV8e, hV7e, hV6e, hV5e, hV4e, hV3e, hV2e, hV1e]; repeat first | exact vu_eq _ _ _ | refine vu_ne (by decide) ?_, by rw [hV19e, hV18e, hV17e, hV16e, hV15e, hV14e, hV13e, hV12e, hV11e, hV10e, hV9e, hV8e, hV7e, hV6e, hV5e, hV4e, hV3e, hV2e, hV1e]; repeat first | exact vu_eq _ _ _ | refine vu_ne (by decide) ?_, by rw [hV19e, hV18e, hV17e, hV16e, hV15e, hV14e, hV13e, hV12e, hV11e, hV10e, hV9e, hV8e, hV7e, hV6e, hV5e, hV4e, hV3e, hV2e, hV1e]; repeat first | exact vu_eq _ _ _ | refine vu_ne (by decide) ?_, by rw [hV19e, hV18e, hV17e, hV16e, hV15e, hV14e, hV13e, hV12e, hV11e, hV10e, hV9e, hV8e, hV7e, hV6e, hV5e, hV4e, hV3e, hV2e, hV1e]; repeat first | exact vu_eq _ _ _ | refine vu_ne (by decide) ?_⟩, ((hU19.2 _ (by omega) (by omega)).trans ((hU18.2 _ (by omega) (by omega)).trans ((hU17.2 _ (by omega) (by omega)).trans ((hU16.2 _ (by omega) (by omega)).trans ((hU15.2 _ (by omega) (by omega)).trans ((hU14.2 _ (by omega) (by omega)).trans ((hU13.2 _ (by omega) (by omega)).trans ((hU12.2 _ (by omega) (by omega)).trans ((hU11.2 _ (by omega) (by omega)).trans ((hU10.2 _ (by omega) (by omega)).trans ((hU9.2 _ (by omega) (by omega)).trans ((hU8.2 _ (by omega) (by omega)).trans ((hU7.2 _ (by omega) (by omega)).trans ((hU6.2 _ (by omega) (by omega)).trans ((hU5.2 _ (by omega) (by omega)).trans ((hU4.2 _ (by omega) (by omega)).trans ((hU3.2 _ (by omega) (by omega)).trans ((hU2.2 _ (by omega) (by omega)).trans ha1)))))))))))))))))), ((hU19.2 _ (by omega) (by omega)).trans ((hU18.2 _ (by omega) (by omega)).trans ((hU17.2 _ (by omega) (by omega)).trans ((hU16.2 _ (by omega) (by omega)).trans ((hU15.2 _ (by omega) (by omega)).trans ((hU14.2 _ (by omega) (by omega)).trans ((hU13.2 _ (by omega) (by omega)).trans ((hU12.2 _ (by omega) (by omega)).trans ((hU11.2 _ (by omega) (by omega)).trans ((hU10.2 _ (by omega) (by omega)).trans ((hU9.2 _ (by omega) (by omega)).trans ((hU8.2 _ (by omega) (by omega)).trans ((hU7.2 _ (by omega) (by omega)).trans ((hU6.2 _ (by omega) (by omega)).trans ((hU5.2 _ (by omega) (by omega)).trans ((hU4.2 _ (by omega) (by omega)).trans ((hU3.2 _ (by omega) (by omega)).trans ha2))))))))))))))))), ((hU19.2 _ (by omega) (by omega)).trans ((hU18.2 _ (by omega) (by omega)).trans ((hU17.2 _ (by omega) (by omega)).trans ((hU16.2 _ (by omega) (by omega)).trans ((hU15.2 _ (by omega) (by omega)).trans ((hU14.2 _ (by omega) (by omega)).trans ((hU13.2 _ (by omega) (by omega)).trans ((hU12.2 _ (by omega) (by omega)).trans ((hU11.2 _ (by omega) (by omega)).trans ((hU10.2 _ (by omega) (by omega)).trans ((hU9.2 _ (by omega) (by omega)).trans ((hU8.2 _ (by omega) (by omega)).trans ((hU7.2 _ (by omega) (by omega)).trans ((hU6.2 _ (by omega) (by omega)).trans ((hU5.2 _ (by omega) (by omega)).trans ((hU4.2 _ (by omega) (by omega)).trans ha3)))))))))))))))), ((hU19.2 _ (by omega) (by omega)).trans ((hU18.2 _ (by omega) (by omega)).trans ((hU17.2 _ (by omega) (by omega)).trans ((hU16.2 _ (by omega) (by omega)).trans ((hU15.2 _ (by omega) (by omega)).trans ((hU14.2 _ (by omega) (by omega)).trans ((hU13.2 _ (by omega) (by omega)).trans ((hU12.2 _ (by omega) (by omega)).trans ((hU11.2 _ (by omega) (by omega)).trans ((hU10.2 _ (by omega) (by omega)).trans ((hU9.2 _ (by omega) (by omega)).trans ((hU8.2 _ (by omega) (by omega)).trans ((hU7.2 _ (by omega) (by omega)).trans ((hU6.2 _ (by omega) (by omega)).trans ((hU5.2 _ (by omega) (by omega)).trans ha4))))))))))))))), ((hU19.2 _ (by omega) (by omega)).trans ((hU18.2 _ (by omega) (by omega)).trans ((hU17.2 _ (by omega) (by omega)).trans ((hU16.2 _ (by omega) (by omega)).trans ((hU15.2 _ (by omega) (by omega)).trans ((hU14.2 _ (by omega) (by omega)).trans ((hU13.2 _ (by omega) (by omega)).trans ((hU12.2 _ (by omega) (by omega)).trans ((hU11.2 _ (by omega) (by omega)).trans ((hU10.2 _ (by omega) (by omega)).trans ((hU9.2 _ (by omega) (by omega)).trans ((hU8.2 _ (by omega) (by omega)).trans ((hU7.2 _ (by omega) (by omega)).trans ((hU6.2 _ (by omega) (by omega)).trans ha5)))))))))))))), ((hU19.2 _ (by omega) (by omega)).trans ((hU18.2 _ (by omega) (by omega)).trans ((hU17.2 _ (by omega) (by omega)).trans ((hU16.2 _ (by omega) (by omega)).trans ((hU15.2 _ (by omega) (by omega)).trans ((hU14.2 _ (by omega) (by omega)).trans ((hU13.2 _ (by omega) (by omega)).trans ((hU12.2 _ (by omega) (by omega)).trans ((hU11.2 _ (by omega) (by omega)).trans ((hU10.2 _ (by omega) (by omega)).trans ((hU9.2 _ (by omega) (by omega)).trans ((hU8.2 _ (by omega) (by omega)).trans ((hU7.2 _ (by omega) (by omega)).trans ha6))))))))))))), ((hU19.2 _ (by omega) (by omega)).trans ((hU18.2 _ (by omega) (by omega)).trans ((hU17.2 _ (by omega) (by omega)).trans ((hU16.2 _ (by omega) (by omega)).trans ((hU15.2 _ (by omega) (by omega)).trans ((hU14.2 _ (by omega) (by omega)).trans ((hU13.2 _ (by omega) (by omega)).trans ((hU12.2 _ (by omega) (by omega)).trans ((hU11.2 _ (by omega) (by omega)).trans ((hU10.2 _ (by omega) (by omega)).trans ((hU9.2 _ (by omega) (by omega)).trans ((hU8.2 _ (by omega) (by omega)).trans ha7)))))))))))), ((hU19.2 _ (by omega) (by omega)).trans ((hU18.2 _ (by omega) (by omega)).trans ((hU17.2 _ (by omega) (by omega)).trans ((hU16.2 _ (by omega) (by omega)).trans ((hU15.2 _ (by omega) (by omega)).trans ((hU14.2 _ (by omega) (by omega)).trans ((hU13.2 _ (by omega) (by omega)).trans ((hU12.2 _ (by omega) (by omega)).trans ((hU11.2 _ (by omega) (by omega)).trans ((hU10.2 _ (by omega) (by omega)).trans ((hU9.2 _ (by omega) (by omega)).trans ha8))))))))))), ((hU19.2 _ (by omega) (by omega)).trans ((hU18.2 _ (by omega) (by omega)).trans ((hU17.2 _ (by omega) (by omega)).trans ((hU16.2 _ (by omega) (by omega)).trans ((hU15.2 _ (by omega) (by omega)).trans ((hU14.2 _ (by omega) (by omega)).trans ((hU13.2 _ (by omega) (by omega)).trans ((hU12.2 _ (by omega) (by omega)).trans ((hU11.2 _ (by omega) (by omega)).trans ((hU10.2 _ (by omega) (by omega)).trans ha9)))))))))), ((hU19.2 _ (by omega) (by omega)).trans ((hU18.2 _ (by omega) (by omega)).trans ((hU17.2 _ (by omega) (by omega)).trans ((hU16.2 _ (by omega) (by omega)).trans ((hU15.2 _ (by omega) (by omega)).trans ((hU14.2 _ (by omega) (by omega)).trans ((hU13.2 _ (by omega) (by omega)).trans ((hU12.2 _ (by omega) (by omega)).trans ((hU11.2 _ (by omega) (by omega)).trans ha10))))))))), ((hU19.2 _ (by omega) (by omega)).trans ((hU18.2 _ (by omega) (by omega)).trans ((hU17.2 _ (by omega) (by omega)).trans ((hU16.2 _ (by omega) (by omega)).trans ((hU15.2 _ (by omega) (by omega)).trans ((hU14.2 _ (by omega) (by omega)).trans ((hU13.2 _ (by omega) (by omega)).trans ((hU12.2 _ (by omega) (by omega)).trans ha11)))))))), ((hU19.2 _ (by omega) (by omega)).trans ((hU18.2 _ (by omega) (by omega)).trans ((hU17.2 _ (by omega) (by omega)).trans ((hU16.2 _ (by omega) (by omega)).trans ((hU15.2 _ (by omega) (by omega)).trans ((hU14.2 _ (by omega) (by omega)).trans ((hU13.2 _ (by omega) (by omega)).trans ha12))))))), ((hU19.2 _ (by omega) (by omega)).trans ((hU18.2 _ (by omega) (by omega)).trans ((hU17.2 _ (by omega) (by omega)).trans ((hU16.2 _ (by omega) (by omega)).trans ((hU15.2 _ (by omega) (by omega)).trans ((hU14.2 _ (by omega) (by omega)).trans ha13)))))), ((hU19.2 _ (by omega) (by omega)).trans ((hU18.2 _ (by omega) (by omega)).trans ((hU17.2 _ (by omega) (by omega)).trans ((hU16.2 _ (by omega) (by omega)).trans ((hU15.2 _ (by omega) (by omega)).trans ha14))))), ((hU19.2 _ (by omega) (by omega)).trans ((hU18.2 _ (by omega) (by omega)).trans ((hU17.2 _ (by omega) (by omega)).trans ((hU16.2 _ (by omega) (by omega)).trans ha15)))), ((hU19.2 _ (by omega) (by omega)).trans ((hU18.2 _ (by omega) (by omega)).trans ((hU17.2 _ (by omega) (by omega)).trans ha16))), ((hU19.2 _ (by omega) (by omega)).trans ((hU18.2 _ (by omega) (by omega)).trans ha17)), ((hU19.2 _ (by omega) (by omega)).trans ha18), ha19⟩, rm_00 (by rw [hV19e, hV18e, hV17e, hV16e, hV15e, hV14e, hV13e, hV12e, hV11e, hV10e, hV9e, hV8e, hV7e, hV6e, hV5e, hV4e, hV3e, hV2e, hV1e])⟩, ((((((((((((((((((hU1.1.tr hU2.1 (Nat.le_refl _) (Nat.le_refl _)).tr hU3.1 (Nat.le_refl _) (Nat.le_refl _)).tr hU4.1 (Nat.le_refl _) (Nat.le_refl _)).tr hU5.1 (Nat.le_refl _) (Nat.le_refl _)).tr hU6.1 (Nat.le_refl _) (Nat.le_refl _)).tr hU7.1 (Nat.le_refl _) (Nat.le_refl _)).tr hU8.1 (Nat.le_refl _) (Nat.le_refl _)).tr hU9.1 (Nat.le_refl _) (Nat.le_refl _)).tr hU10.1 (Nat.le_refl _) (Nat.le_refl _)).tr hU11.1 (Nat.le_refl _) (Nat.le_refl _)).tr hU12.1 (Nat.le_refl _) (Nat.le_refl _)).tr hU13.1 (Nat.le_refl _) (Nat.le_refl _)).tr hU14.1 (Nat.le_refl _) (Nat.le_refl _)).tr hU15.1 (Nat.le_refl _) (Nat.le_refl _)).tr hU16.1 (Nat.le_refl _) (Nat.le_refl _)).tr hU17.1 (Nat.le_refl _) (Nat.le_refl _)).tr hU18.1 (Nat.le_refl _) (Nat.le_refl _)).tr hU19.1 (Nat.le_refl _) (Nat.le_refl _))⟩
