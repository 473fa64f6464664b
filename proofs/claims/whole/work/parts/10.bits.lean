/-! ===== bits at naturals; the reference's object by its fields' function ===== -/
theorem zb_and (a b : Nat) : nI a &&& nI b = nI (a &&& b) := by
  apply Int32.toBitVec_inj.1
  show BitVec.ofNat 32 a &&& BitVec.ofNat 32 b = BitVec.ofNat 32 (a &&& b)
  apply BitVec.eq_of_getLsbD_eq
  intro i hi
  simp [hi]
theorem zb_or (a b : Nat) : nI a ||| nI b = nI (a ||| b) := by
  apply Int32.toBitVec_inj.1
  show BitVec.ofNat 32 a ||| BitVec.ofNat 32 b = BitVec.ofNat 32 (a ||| b)
  apply BitVec.eq_of_getLsbD_eq
  intro i hi
  simp [hi]
theorem zb_sl : ∀ n, n < 32 → ((nI n &&& 31).toBitVec.smod 32).toNat = n := by decide +kernel
theorem zb_shl1 {k : Nat} (hk : k < 31) : nI 1 <<< (nI k &&& 31) = nI (2 ^ k) := by
  have h2 : 2 ^ k < 2 ^ 31 := Nat.pow_lt_pow_right (by omega) hk
  have := pk_shlN (n := 1) (nI k &&& 31) k (zb_sl k (by omega)) (by omega)
  rw [this, Nat.one_mul]
theorem zb_shr {a k : Nat} (ha : a < 2 ^ 31) (hk : k < 32) : nI a >>> (nI k &&& 31) = nI (a / 2 ^ k) := pk_shrN ha _ k (zb_sl k hk)
theorem zb_and1 (a : Nat) : nI a &&& nI 1 = nI (a % 2) := by rw [zb_and, Nat.and_one_is_mod]
def mfl (mf : Nat → Value) : List Value := (List.range 37).map mf
def vu (mf : Nat → Value) (k : Nat) (v : Value) : Nat → Value := fun j => if j = k then v else mf j
theorem vu_eq (mf : Nat → Value) (k : Nat) (v : Value) : vu mf k v k = v := by simp [vu]
theorem vu_ne {mf : Nat → Value} {k j : Nat} {v r : Value} (h : j ≠ k) (hr : mf j = r) : vu mf k v j = r := by simp [vu, h, hr]
theorem mfl_get {mf : Nat → Value} {k : Nat} (h : k < 37) : (mfl mf)[k]? = some (mf k) := by
  unfold mfl
  rw [List.getElem?_map, List.getElem?_range h]
  rfl
theorem mfl_set {mf : Nat → Value} {k : Nat} {v : Value} : (mfl mf).set k v = mfl (vu mf k v) := by
  apply List.ext_getElem?
  intro i
  by_cases hi : i < 37
  · by_cases hk : k = i
    · subst hk
      rw [mfl_get hi, List.getElem?_set_self (by simp [mfl]; exact hi), vu_eq]
    · rw [List.getElem?_set_ne hk, mfl_get hi, mfl_get hi]
      simp [vu, Ne.symm hk]
  · rw [List.getElem?_eq_none (by simp [mfl]; omega), List.getElem?_eq_none (by simp [mfl]; omega)]
section XB
variable {p : Program} {l : Launch} {e : Env} {R : Room} {s : State} {m : MethodId} {args : Array Value} {below : List Frame} {meth : Method} {c : Code} {H : Heap} {locs : List Loc} {cells slots : Nat} {Q : State → Prop}
variable {cc : ByteArray} {pc : Nat} {ls : Array Slot} {rest : List Value} {N0 : Nat} {G : XG} {w : Wd} {H0 : Heap} {a : Nat}
theorem xand1 (hexec : p.tables.exec = Jvm.exec) (hb : c.code = cc) {x : Nat} (hdg : decode cc pc = .ok (.iand, 1)) (k : W p l e R s m args below meth c H locs cells slots Q (F0 m (pc + 1) ls (.int (nI (x % 2)) :: rest))) : W p l e R s m args below meth c H locs cells slots Q (F0 m pc ls (.int (nI 1) :: .int (nI x) :: rest)) := lv_iand hexec hb hdg (by rw [zb_and1]; exact k)
theorem xand (hexec : p.tables.exec = Jvm.exec) (hb : c.code = cc) {x y : Nat} (hdg : decode cc pc = .ok (.iand, 1)) (k : W p l e R s m args below meth c H locs cells slots Q (F0 m (pc + 1) ls (.int (nI (x &&& y)) :: rest))) : W p l e R s m args below meth c H locs cells slots Q (F0 m pc ls (.int (nI y) :: .int (nI x) :: rest)) := lv_iand hexec hb hdg (by rw [zb_and]; exact k)
theorem xor_ (hexec : p.tables.exec = Jvm.exec) (hb : c.code = cc) {x y : Nat} (hdg : decode cc pc = .ok (.ior, 1)) (k : W p l e R s m args below meth c H locs cells slots Q (F0 m (pc + 1) ls (.int (nI (x ||| y)) :: rest))) : W p l e R s m args below meth c H locs cells slots Q (F0 m pc ls (.int (nI y) :: .int (nI x) :: rest)) := lv_ior hexec hb hdg (by rw [zb_or]; exact k)
theorem xshl (hexec : p.tables.exec = Jvm.exec) (hb : c.code = cc) {y : Nat} (hdg : decode cc pc = .ok (.ishl, 1)) (hy : y < 31) (k : W p l e R s m args below meth c H locs cells slots Q (F0 m (pc + 1) ls (.int (nI (2 ^ y)) :: rest))) : W p l e R s m args below meth c H locs cells slots Q (F0 m pc ls (.int (nI y) :: .int (nI 1) :: rest)) := lv_ishl hexec hb hdg (by rw [zb_shl1 hy]; exact k)
theorem xshr (hexec : p.tables.exec = Jvm.exec) (hb : c.code = cc) {x y : Nat} (hdg : decode cc pc = .ok (.ishr, 1)) (hx : x < 2 ^ 31) (hy : y < 32) (k : W p l e R s m args below meth c H locs cells slots Q (F0 m (pc + 1) ls (.int (nI (x / 2 ^ y)) :: rest))) : W p l e R s m args below meth c H locs cells slots Q (F0 m pc ls (.int (nI y) :: .int (nI x) :: rest)) := lv_ishr hexec hb hdg (by rw [zb_shr hx hy]; exact k)
theorem xi2l (hexec : p.tables.exec = Jvm.exec) (hb : c.code = cc) {x : Nat} (hdg : decode cc pc = .ok (.i2l, 1)) (hx : x < 2 ^ 31) (k : W p l e R s m args below meth c H locs cells slots Q (F0 m (pc + 1) ls (.long (lN x) :: rest))) : W p l e R s m args below meth c H locs cells slots Q (F0 m pc ls (.int (nI x) :: rest)) := lv_i2l hexec hb hdg (nI_l hx) k
theorem xgetM (hexec : p.tables.exec = Jvm.exec) (hb : c.code = cc) {own : String} {index : Nat} {Ts : List Cond} (hts : ∀ x ∈ Ts, x.before args s = true) (hin : ∀ x ∈ u_ws RX12 TX12 37, x ∈ Ts) (hown : s.vm.findClass own = some m.cls) (hG : GK G s) (hw : PW N0 G w H) {mf : Nat → Value} (he : w a = some (eO 12 (mfl mf))) (k : Nat) (hk : k < 37) (hlink : (Cond.fieldLink own index (TX12 k).1 (TX12 k).2.1 (TX12 k).2.2.1).before args s = true) {v : Value} (hv : mf k = v) (hdg : decode cc pc = .ok (.getfield index, 3))
    (kk : W p l e R s m args below meth c H locs cells slots Q (F0 m (pc + 3) ls (v :: rest))) : W p l e R s m args below meth c H locs cells slots Q (F0 m pc ls (.ref a :: rest)) :=
  xget (C := RX12) (T := TX12) (N := 37) hexec hb 12 hts hin hown hG hw he rfl k hk hlink (fun _ h9 => h9) ((mfl_get hk).trans (congrArg some hv)) hdg kk
theorem xputM (hexec : p.tables.exec = Jvm.exec) (hb : c.code = cc) {own : String} {index : Nat} {Ts : List Cond} (hts : ∀ x ∈ Ts, x.before args s = true) (hin : ∀ x ∈ u_ws RX12 TX12 37, x ∈ Ts) (hown : s.vm.findClass own = some m.cls) (hG : GK G s) (hw : PW N0 G w H) (hS0 : va_S (fun q => N0 ≤ q) H0 H locs) {mf : Nat → Value} (he : w a = some (eO 12 (mfl mf))) (k : Nat) (hk : k < 37) (hlink : (Cond.fieldLink own index (TX12 k).1 (TX12 k).2.1 (TX12 k).2.2.1).before args s = true) (hfin : (TX12 k).2.2.2 = false) {ty : FieldType} {v : Value} (hd : parseFieldDescriptor (TX12 k).2.2.1 = some ty) (hn : narrow ty v = v) (hfit : fits ty v = true)
    (hdg : decode cc pc = .ok (.putfield index, 3)) (kk : ∀ (H1 : Heap) (locs1 : List Loc), H1.size = H.size → PW N0 G (wu w a (eO 12 (mfl (vu mf k v)))) H1 → va_S (fun q => N0 ≤ q) H0 H1 locs1 → W p l e R s m args below meth c H1 locs1 cells slots Q (F0 m (pc + 3) ls rest)) : W p l e R s m args below meth c H locs cells slots Q (F0 m pc ls (v :: .ref a :: rest)) :=
  xput (C := RX12) (T := TX12) (N := 37) hexec hb 12 hts hin tyX12 tyX12_ok nmX12 hown hG hw hS0 he rfl k hk hlink (fun _ h9 => h9) hfin hd hn hfit (by simp [mfl]; exact hk) hdg (by rw [mfl_set]; exact kk)
/-- a nullable reference that isn't null -/
theorem xrf {r : Option Nat} {q : Nat} (h : r = some q) (k : W p l e R s m args below meth c H locs cells slots Q (F0 m a ls (.ref q :: rest))) : W p l e R s m args below meth c H locs cells slots Q (F0 m a ls (va_rf r :: rest)) := by subst h; exact k
theorem xrn {r : Option Nat} (h : r = none) (k : W p l e R s m args below meth c H locs cells slots Q (F0 m a ls (.null :: rest))) : W p l e R s m args below meth c H locs cells slots Q (F0 m a ls (va_rf r :: rest)) := by subst h; exact k
end XB
/-- outside [lo, hi) nothing has changed -/
def Out (w w1 : Wd) (lo hi : Nat) : Prop := ∀ a, a < lo ∨ hi ≤ a → w1 a = w a
theorem Out.rf {w : Wd} {lo hi : Nat} : Out w w lo hi := fun _ _ => rfl
theorem Out.wu {w w1 : Wd} {lo hi a : Nat} {e : va_E} (h : Out w w1 lo hi) (h1 : lo ≤ a) (h2 : a < hi) : Out w (wu w1 a e) lo hi := fun b hb => by
  rw [wu_nq (by omega)]
  exact h b hb
theorem Out.tr {w w1 w2 : Wd} {lo hi lo1 hi1 : Nat} (h : Out w w1 lo hi) (h1 : Out w1 w2 lo1 hi1) (a : lo ≤ lo1) (b : hi1 ≤ hi) : Out w w2 lo hi := fun q hq => (h1 q (by omega)).trans (h q hq)
theorem Out.mono {w w1 : Wd} {lo hi lo1 hi1 : Nat} (h : Out w w1 lo1 hi1) (a : lo ≤ lo1) (b : hi1 ≤ hi) : Out w w1 lo hi := fun q hq => h q (by omega)
theorem Out.at {w w1 : Wd} {lo hi a : Nat} {r : Option va_E} (h : Out w w1 lo hi) (ha : a < lo ∨ hi ≤ a) (hr : w a = r) : w1 a = r := (h a ha).trans hr
/-- a pen at p, its hands' row behind it: through whose hands it went, the last first -/
def RPen (G : XG) (w : Wd) (p : Nat) (h : List Nat) : Prop := ∃ f : Nat → Int32, w p = some (eO 6 [.ref (p + 1), .int (nI (h.length - 1))]) ∧ w (p + 1) = some (eI G 41 f) ∧ 0 < h.length ∧ h.length ≤ 41 ∧ ∀ j, j < h.length → f (h.length - 1 - j) = nI (h.getD j 0)
theorem RPen.keep {G : XG} {w w1 : Wd} {p : Nat} {h : List Nat} (hp : RPen G w p h) (h0 : w1 p = w p) (h1 : w1 (p + 1) = w (p + 1)) : RPen G w1 p h := by
  obtain ⟨f, a, b, c⟩ := hp
  exact ⟨f, h0.trans a, h1.trans b, c⟩
theorem RPen.out {G : XG} {w w1 : Wd} {p lo hi : Nat} {h : List Nat} (hp : RPen G w p h) (ho : Out w w1 lo hi) (hd : p + 2 ≤ lo ∨ hi ≤ p) : RPen G w1 p h := hp.keep (ho _ (by omega)) (ho _ (by omega))
theorem RPen.cell {G : XG} {w : Wd} {p : Nat} {h : List Nat} (hp : RPen G w p h) : w p = some (eO 6 [.ref (p + 1), .int (nI (h.length - 1))]) := hp.choose_spec.1
theorem RPen.len {G : XG} {w : Wd} {p : Nat} {h : List Nat} (hp : RPen G w p h) : 0 < h.length ∧ h.length ≤ 41 := ⟨hp.choose_spec.2.2.1, hp.choose_spec.2.2.2.1⟩
