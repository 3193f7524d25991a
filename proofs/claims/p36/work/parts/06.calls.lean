/-! ===== methods and calls ===== -/
def MIv (y : MethodName) (C : String) (b : ByteArray) (nL : Nat) (rt : Option FieldType) (cnt : Nat) : Prop :=
  Cond.instanceMethod y ∈ TB ∧ Cond.selects C y y ∈ TB ∧ Cond.initialized C ∈ TB ∧ Cond.code y b nL rt ∈ TB ∧ (y.cls = C ∧ y.cls ≠ "java/lang/invoke/MethodHandle" ∧ y.cls ≠ "java/lang/invoke/VarHandle" ∧ (parseMethodDescriptor y.desc).map (fun d => d.parameters.length) = some cnt) ∧ nL ≤ 17
def MIs (y : MethodName) (b : ByteArray) (nL : Nat) (rt : Option FieldType) (cnt : Nat) : Prop :=
  Cond.static y ∈ TB ∧ Cond.initialized y.cls ∈ TB ∧ Cond.code y b nL rt ∈ TB ∧ (y.cls ≠ "java/lang/invoke/MethodHandle" ∧ y.cls ≠ "java/lang/invoke/VarHandle" ∧ (parseMethodDescriptor y.desc).map (fun d => d.parameters.length) = some cnt) ∧ nL ≤ 17
def MIi (y : MethodName) (b : ByteArray) (nL : Nat) (cnt : Nat) : Prop :=
  Cond.instanceMethod y ∈ TB ∧ Cond.initialized y.cls ∈ TB ∧ Cond.code y b nL none ∈ TB ∧ (y.cls ≠ "java/lang/invoke/MethodHandle" ∧ y.cls ≠ "java/lang/invoke/VarHandle" ∧ (parseMethodDescriptor y.desc).map (fun d => d.parameters.length) = some cnt) ∧ nL ≤ 17 ∧ y.name = "<init>"
theorem code_TB {y : MethodName} {b : ByteArray} {nL : Nat} {rt : Option FieldType} (h : Cond.code y b nL rt ∈ TB) : ∀ w ∈ Cond.code y b nL rt :: TB, w ∈ TB := fun w hw => (List.mem_cons.mp hw).elim (fun e => e ▸ h) id
theorem goodV {own : String} {idx : Nat} {y : MethodName} {C : String} {b : ByteArray} {nL : Nat} {rt : Option FieldType} {cnt : Nat} (mi : MIv y C b nL rt cnt) (lk : Cond.methodLink own idx y ∈ TB) : GoodIn TB (wsV own idx C y (Cond.code y b nL rt :: TB)) := by
  obtain ⟨i1, i2, i3, i4, -⟩ := mi
  refine goodIn_TB (fun w hw => ?_)
  rcases List.mem_append.mp hw with h | h
  · simp only [List.mem_cons, List.not_mem_nil, or_false] at h
    rcases h with rfl | rfl | rfl | rfl
    · exact lk
    · exact i1
    · exact i2
    · exact i3
  · exact code_TB i4 w h
section QC
variable {l : Launch} {cc : ByteArray} {own : String} {nL D K : Nat} {G : kG} {n0 : Nat} {J : kJ} {n : Nat} {I : kI} {L : kL} {X : kX} {pc : Nat} {lv : kV} {rest : List Value}
theorem callV_i (hM : Mach l cc own nL D K G n0 J) {y : MethodName} {b' : ByteArray} {nL' D' cnt idx : Nat} {C : String} {T : u_T} {N : Nat} {tyf : Nat → FieldType} {ci : Nat} (mi : MIv y C b' nL' (some .int) cnt) (lk : Cond.methodLink own idx y ∈ TB) (cf : CF ci C T N tyf) {r : Nat} (hr : r < n) (hk : kd r = ci) {As : List Value} {n1 : Nat} {post : Int32 → kI → kL → kX → Prop} (hC : Ki l y b' nL' D' G (.ref (ad G r) :: As) n n1 I L X post) (hcnt : As.length = cnt) {st : List Value} (hst : st = As.reverse ++ .ref (ad G r) :: rest) (hD : D' + 1 ≤ D) (hn1 : n ≤ n1) (hKc : n1 ≤ n0 + K) (hW : (rest.map fun v => v.category).sum ≤ 8) (hd : decode cc pc = .ok (.invokevirtual idx, 3)) (kk : ∀ (v : Int32) (I' : kI) (L' : kL) (X' : kX), post v I' L' X' → J n1 I' L' X' (pc + 3) lv (.int v :: rest)) : J n I L X pc lv st := by
  subst hst
  obtain ⟨p, e, Rm, s, m, args, below, meth, c, H0, Q, rfl, hx, hb, hml, hown, hT, hK, hbs, hR⟩ := hM
  intro hn H locs ls hz hP hS hl
  have hTB : ∀ w ∈ TB, w.before args s = true := fun w hw => hT w (inT_TB hw)
  have hUU : ∀ U : State, U.heap = H → s.WarmedH U.vm → kW G n I L X U := fun U hU hW => ⟨by rw [hU]; exact hz, by rw [hU]; exact hP, va_K.moved hW.alike hK, fun w hw => nest_warm hw.2 hW (va_Nw.of (nest_tab hw.2) (hT w ⟨hw.1, by rw [hw.2]; exact Bool.or_true _⟩)), hbs.2.moved hW.alike⟩
  obtain ⟨r1, r2, r3, r4⟩ := hR
  have i5 := mi.2.2.2.2.1
  have i6 := mi.2.2.2.2.2
  have he : (wl G n I L X)[r]? = some (ad G r, .inr (ci, flds G I L X ci r)) := by rw [wl_get hr, ce_obj hk cf.2.1]
  have hpre : PreV s H C (ad G r) (va_Pc (.ref (ad G r) :: As) (kW G n I L X)) As := ⟨kW_blind, va_recv hK hP cf.1 he, fun U hU hW => ⟨rfl, hUU U hU hW⟩⟩
  refine va_calli (va_runV (Ts := TB) (rest := rest) ⟨hx, hb, hml, hown, hTB⟩ hC (cwV cnt hTB (goodV mi lk) rfl rfl rfl i5 ⟨by show D' + 1 ≤ _; omega, by show 8 + (nL' + 11) + 36 * D' ≤ _; omega⟩) hpre rfl hcnt hl.1 rfl (lv_room hW) hd ⟨by omega, by omega⟩) hS (fun q _ h => ?_) (fun q h => h) (fun v u t H1 locs1 ht hvm hp hB hz1 hk1 hS1 => by
    obtain ⟨b1, b2, -⟩ := hB
    have K9 := kk v u.1 u.2.1 u.2.2 hp (by omega) H1 locs1 ls (by rw [← ht]; exact b1) (by rw [← ht]; exact b2) hS1 hl
    rw [show n - n0 + (n1 - n) = n1 - n0 by omega, show 800 * (n - n0) + 800 * (n1 - n) = 800 * (n1 - n0) by omega]
    exact K9)
  exact h
theorem callV_z (hM : Mach l cc own nL D K G n0 J) {y : MethodName} {b' : ByteArray} {nL' D' cnt idx : Nat} {C : String} {T : u_T} {N : Nat} {tyf : Nat → FieldType} {ci : Nat} (mi : MIv y C b' nL' (some .boolean) cnt) (lk : Cond.methodLink own idx y ∈ TB) (cf : CF ci C T N tyf) {r : Nat} (hr : r < n) (hk : kd r = ci) {As : List Value} {n1 : Nat} {post : Bool → kI → kL → kX → Prop} (hC : Kz l y b' nL' D' G (.ref (ad G r) :: As) n n1 I L X post) (hcnt : As.length = cnt) {st : List Value} (hst : st = As.reverse ++ .ref (ad G r) :: rest) (hD : D' + 1 ≤ D) (hn1 : n ≤ n1) (hKc : n1 ≤ n0 + K) (hW : (rest.map fun v => v.category).sum ≤ 8) (hd : decode cc pc = .ok (.invokevirtual idx, 3)) (kk : ∀ (z : Bool) (I' : kI) (L' : kL) (X' : kX), post z I' L' X' → J n1 I' L' X' (pc + 3) lv (.int (bI z) :: rest)) : J n I L X pc lv st := by
  subst hst
  obtain ⟨p, e, Rm, s, m, args, below, meth, c, H0, Q, rfl, hx, hb, hml, hown, hT, hK, hbs, hR⟩ := hM
  intro hn H locs ls hz hP hS hl
  have hTB : ∀ w ∈ TB, w.before args s = true := fun w hw => hT w (inT_TB hw)
  have hUU : ∀ U : State, U.heap = H → s.WarmedH U.vm → kW G n I L X U := fun U hU hW => ⟨by rw [hU]; exact hz, by rw [hU]; exact hP, va_K.moved hW.alike hK, fun w hw => nest_warm hw.2 hW (va_Nw.of (nest_tab hw.2) (hT w ⟨hw.1, by rw [hw.2]; exact Bool.or_true _⟩)), hbs.2.moved hW.alike⟩
  obtain ⟨r1, r2, r3, r4⟩ := hR
  have i5 := mi.2.2.2.2.1
  have i6 := mi.2.2.2.2.2
  have he : (wl G n I L X)[r]? = some (ad G r, .inr (ci, flds G I L X ci r)) := by rw [wl_get hr, ce_obj hk cf.2.1]
  have hpre : PreV s H C (ad G r) (va_Pc (.ref (ad G r) :: As) (kW G n I L X)) As := ⟨kW_blind, va_recv hK hP cf.1 he, fun U hU hW => ⟨rfl, hUU U hU hW⟩⟩
  refine va_calli (va_runV (Ts := TB) (rest := rest) ⟨hx, hb, hml, hown, hTB⟩ hC (cwV cnt hTB (goodV mi lk) rfl rfl rfl i5 ⟨by show D' + 1 ≤ _; omega, by show 8 + (nL' + 11) + 36 * D' ≤ _; omega⟩) hpre rfl hcnt hl.1 rfl (lv_room hW) hd ⟨by omega, by omega⟩) hS (fun q _ h => ?_) (fun q h => h) (fun v u t H1 locs1 ht hvm hp hB hz1 hk1 hS1 => by
    obtain ⟨z, rfl, hp⟩ := hp
    obtain ⟨b1, b2, -⟩ := hB
    have K9 := kk z u.1 u.2.1 u.2.2 hp (by omega) H1 locs1 ls (by rw [← ht]; exact b1) (by rw [← ht]; exact b2) hS1 hl
    rw [show n - n0 + (n1 - n) = n1 - n0 by omega, show 800 * (n - n0) + 800 * (n1 - n) = 800 * (n1 - n0) by omega]
    exact K9)
  exact h
theorem callV_l (hM : Mach l cc own nL D K G n0 J) {y : MethodName} {b' : ByteArray} {nL' D' cnt idx : Nat} {C : String} {T : u_T} {N : Nat} {tyf : Nat → FieldType} {ci : Nat} (mi : MIv y C b' nL' (some .long) cnt) (lk : Cond.methodLink own idx y ∈ TB) (cf : CF ci C T N tyf) {r : Nat} (hr : r < n) (hk : kd r = ci) {As : List Value} {n1 : Nat} {post : Int64 → kI → kL → kX → Prop} (hC : Kl l y b' nL' D' G (.ref (ad G r) :: As) n n1 I L X post) (hcnt : As.length = cnt) {st : List Value} (hst : st = As.reverse ++ .ref (ad G r) :: rest) (hD : D' + 1 ≤ D) (hn1 : n ≤ n1) (hKc : n1 ≤ n0 + K) (hW : (rest.map fun v => v.category).sum ≤ 8) (hd : decode cc pc = .ok (.invokevirtual idx, 3)) (kk : ∀ (v : Int64) (I' : kI) (L' : kL) (X' : kX), post v I' L' X' → J n1 I' L' X' (pc + 3) lv (.long v :: rest)) : J n I L X pc lv st := by
  subst hst
  obtain ⟨p, e, Rm, s, m, args, below, meth, c, H0, Q, rfl, hx, hb, hml, hown, hT, hK, hbs, hR⟩ := hM
  intro hn H locs ls hz hP hS hl
  have hTB : ∀ w ∈ TB, w.before args s = true := fun w hw => hT w (inT_TB hw)
  have hUU : ∀ U : State, U.heap = H → s.WarmedH U.vm → kW G n I L X U := fun U hU hW => ⟨by rw [hU]; exact hz, by rw [hU]; exact hP, va_K.moved hW.alike hK, fun w hw => nest_warm hw.2 hW (va_Nw.of (nest_tab hw.2) (hT w ⟨hw.1, by rw [hw.2]; exact Bool.or_true _⟩)), hbs.2.moved hW.alike⟩
  obtain ⟨r1, r2, r3, r4⟩ := hR
  have i5 := mi.2.2.2.2.1
  have i6 := mi.2.2.2.2.2
  have he : (wl G n I L X)[r]? = some (ad G r, .inr (ci, flds G I L X ci r)) := by rw [wl_get hr, ce_obj hk cf.2.1]
  have hpre : PreV s H C (ad G r) (va_Pc (.ref (ad G r) :: As) (kW G n I L X)) As := ⟨kW_blind, va_recv hK hP cf.1 he, fun U hU hW => ⟨rfl, hUU U hU hW⟩⟩
  refine va_calll (va_runV (Ts := TB) (rest := rest) ⟨hx, hb, hml, hown, hTB⟩ hC (cwV cnt hTB (goodV mi lk) rfl rfl rfl i5 ⟨by show D' + 1 ≤ _; omega, by show 8 + (nL' + 11) + 36 * D' ≤ _; omega⟩) hpre rfl hcnt hl.1 rfl (lv_room hW) hd ⟨by omega, by omega⟩) hS (fun q _ h => ?_) (fun q h => h) (fun v u t H1 locs1 ht hvm hp hB hz1 hk1 hS1 => by
    obtain ⟨b1, b2, -⟩ := hB
    have K9 := kk v u.1 u.2.1 u.2.2 hp (by omega) H1 locs1 ls (by rw [← ht]; exact b1) (by rw [← ht]; exact b2) hS1 hl
    rw [show n - n0 + (n1 - n) = n1 - n0 by omega, show 800 * (n - n0) + 800 * (n1 - n) = 800 * (n1 - n0) by omega]
    exact K9)
  exact h
theorem callV_v (hM : Mach l cc own nL D K G n0 J) {y : MethodName} {b' : ByteArray} {nL' D' cnt idx : Nat} {C : String} {T : u_T} {N : Nat} {tyf : Nat → FieldType} {ci : Nat} (mi : MIv y C b' nL' none cnt) (lk : Cond.methodLink own idx y ∈ TB) (cf : CF ci C T N tyf) {r : Nat} (hr : r < n) (hk : kd r = ci) {As : List Value} {n1 : Nat} {post : kI → kL → kX → Prop} (hC : Kv l y b' nL' D' G (.ref (ad G r) :: As) n n1 I L X post) (hcnt : As.length = cnt) {st : List Value} (hst : st = As.reverse ++ .ref (ad G r) :: rest) (hD : D' + 1 ≤ D) (hn1 : n ≤ n1) (hKc : n1 ≤ n0 + K) (hW : (rest.map fun v => v.category).sum ≤ 8) (hd : decode cc pc = .ok (.invokevirtual idx, 3)) (kk : ∀ (I' : kI) (L' : kL) (X' : kX), post I' L' X' → J n1 I' L' X' (pc + 3) lv rest) : J n I L X pc lv st := by
  subst hst
  obtain ⟨p, e, Rm, s, m, args, below, meth, c, H0, Q, rfl, hx, hb, hml, hown, hT, hK, hbs, hR⟩ := hM
  intro hn H locs ls hz hP hS hl
  have hTB : ∀ w ∈ TB, w.before args s = true := fun w hw => hT w (inT_TB hw)
  have hUU : ∀ U : State, U.heap = H → s.WarmedH U.vm → kW G n I L X U := fun U hU hW => ⟨by rw [hU]; exact hz, by rw [hU]; exact hP, va_K.moved hW.alike hK, fun w hw => nest_warm hw.2 hW (va_Nw.of (nest_tab hw.2) (hT w ⟨hw.1, by rw [hw.2]; exact Bool.or_true _⟩)), hbs.2.moved hW.alike⟩
  obtain ⟨r1, r2, r3, r4⟩ := hR
  have i5 := mi.2.2.2.2.1
  have i6 := mi.2.2.2.2.2
  have he : (wl G n I L X)[r]? = some (ad G r, .inr (ci, flds G I L X ci r)) := by rw [wl_get hr, ce_obj hk cf.2.1]
  have hpre : PreV s H C (ad G r) (va_Pc (.ref (ad G r) :: As) (kW G n I L X)) As := ⟨kW_blind, va_recv hK hP cf.1 he, fun U hU hW => ⟨rfl, hUU U hU hW⟩⟩
  refine va_callv (va_runV (Ts := TB) (rest := rest) ⟨hx, hb, hml, hown, hTB⟩ hC (cwV cnt hTB (goodV mi lk) rfl rfl rfl i5 ⟨by show D' + 1 ≤ _; omega, by show 8 + (nL' + 11) + 36 * D' ≤ _; omega⟩) hpre rfl hcnt hl.1 rfl (lv_room hW) hd ⟨by omega, by omega⟩) hS (fun q _ h => ?_) (fun q h => h) (fun u t H1 locs1 ht hvm hp hB hz1 hk1 hS1 => by
    obtain ⟨b1, b2, -⟩ := hB
    have K9 := kk u.1 u.2.1 u.2.2 hp (by omega) H1 locs1 ls (by rw [← ht]; exact b1) (by rw [← ht]; exact b2) hS1 hl
    rw [show n - n0 + (n1 - n) = n1 - n0 by omega, show 800 * (n - n0) + 800 * (n1 - n) = 800 * (n1 - n0) by omega]
    exact K9)
  exact h
theorem callV_q (hM : Mach l cc own nL D K G n0 J) {y : MethodName} {b' : ByteArray} {nL' D' cnt idx : Nat} {Cr : String} {C : String} {T : u_T} {N : Nat} {tyf : Nat → FieldType} {ci : Nat} (mi : MIv y C b' nL' (some (.object Cr)) cnt) (lk : Cond.methodLink own idx y ∈ TB) (cf : CF ci C T N tyf) {r : Nat} (hr : r < n) (hk : kd r = ci) {As : List Value} {n1 : Nat} {post : Option Nat → kI → kL → kX → Prop} (hC : Kq l y b' nL' Cr D' G (.ref (ad G r) :: As) n n1 I L X post) (hcnt : As.length = cnt) {st : List Value} (hst : st = As.reverse ++ .ref (ad G r) :: rest) (hD : D' + 1 ≤ D) (hn1 : n ≤ n1) (hKc : n1 ≤ n0 + K) (hW : (rest.map fun v => v.category).sum ≤ 8) (hd : decode cc pc = .ok (.invokevirtual idx, 3)) (kk : ∀ (q : Option Nat) (I' : kI) (L' : kL) (X' : kX), post q I' L' X' → J n1 I' L' X' (pc + 3) lv (rfv G q :: rest)) : J n I L X pc lv st := by
  subst hst
  obtain ⟨p, e, Rm, s, m, args, below, meth, c, H0, Q, rfl, hx, hb, hml, hown, hT, hK, hbs, hR⟩ := hM
  intro hn H locs ls hz hP hS hl
  have hTB : ∀ w ∈ TB, w.before args s = true := fun w hw => hT w (inT_TB hw)
  have hUU : ∀ U : State, U.heap = H → s.WarmedH U.vm → kW G n I L X U := fun U hU hW => ⟨by rw [hU]; exact hz, by rw [hU]; exact hP, va_K.moved hW.alike hK, fun w hw => nest_warm hw.2 hW (va_Nw.of (nest_tab hw.2) (hT w ⟨hw.1, by rw [hw.2]; exact Bool.or_true _⟩)), hbs.2.moved hW.alike⟩
  obtain ⟨r1, r2, r3, r4⟩ := hR
  have i5 := mi.2.2.2.2.1
  have i6 := mi.2.2.2.2.2
  have he : (wl G n I L X)[r]? = some (ad G r, .inr (ci, flds G I L X ci r)) := by rw [wl_get hr, ce_obj hk cf.2.1]
  have hpre : PreV s H C (ad G r) (va_Pc (.ref (ad G r) :: As) (kW G n I L X)) As := ⟨kW_blind, va_recv hK hP cf.1 he, fun U hU hW => ⟨rfl, hUU U hU hW⟩⟩
  refine va_callq (va_runV (Ts := TB) (rest := rest) ⟨hx, hb, hml, hown, hTB⟩ hC (cwV cnt hTB (goodV mi lk) rfl rfl rfl i5 ⟨by show D' + 1 ≤ _; omega, by show 8 + (nL' + 11) + 36 * D' ≤ _; omega⟩) hpre rfl hcnt hl.1 rfl (lv_room hW) hd ⟨by omega, by omega⟩) hS (fun q _ h => ?_) (fun q h => h) (fun v u t H1 locs1 ht hvm hp hB hz1 hk1 hS1 => by
    obtain ⟨q, rfl, hp⟩ := hp
    obtain ⟨b1, b2, -⟩ := hB
    have K9 := kk q u.1 u.2.1 u.2.2 hp (by omega) H1 locs1 ls (by rw [← ht]; exact b1) (by rw [← ht]; exact b2) hS1 hl
    rw [show n - n0 + (n1 - n) = n1 - n0 by omega, show 800 * (n - n0) + 800 * (n1 - n) = 800 * (n1 - n0) by omega]
    exact K9)
  exact h
theorem callS_i (hM : Mach l cc own nL D K G n0 J) {y : MethodName} {b' : ByteArray} {nL' D' cnt idx : Nat} (mi : MIs y b' nL' (some .int) cnt) (lk : Cond.methodLink own idx y ∈ TB) {As : List Value} {n1 : Nat} {post : Int32 → kI → kL → kX → Prop} (hC : Ki l y b' nL' D' G As n n1 I L X post) (hcnt : As.length = cnt) {st : List Value} (hst : st = As.reverse ++ rest) (hD : D' + 1 ≤ D) (hn1 : n ≤ n1) (hKc : n1 ≤ n0 + K) (hW : (rest.map fun v => v.category).sum ≤ 8) (hd : decode cc pc = .ok (.invokestatic idx, 3)) (kk : ∀ (v : Int32) (I' : kI) (L' : kL) (X' : kX), post v I' L' X' → J n1 I' L' X' (pc + 3) lv (.int v :: rest)) : J n I L X pc lv st := by
  subst hst
  obtain ⟨p, e, Rm, s, m, args, below, meth, c, H0, Q, rfl, hx, hb, hml, hown, hT, hK, hbs, hR⟩ := hM
  intro hn H locs ls hz hP hS hl
  have hTB : ∀ w ∈ TB, w.before args s = true := fun w hw => hT w (inT_TB hw)
  have hUU : ∀ U : State, U.heap = H → s.WarmedH U.vm → kW G n I L X U := fun U hU hW => ⟨by rw [hU]; exact hz, by rw [hU]; exact hP, va_K.moved hW.alike hK, fun w hw => nest_warm hw.2 hW (va_Nw.of (nest_tab hw.2) (hT w ⟨hw.1, by rw [hw.2]; exact Bool.or_true _⟩)), hbs.2.moved hW.alike⟩
  obtain ⟨r1, r2, r3, r4⟩ := hR
  obtain ⟨i1, i2, i3, i5, i6⟩ := mi
  have hpre : PreS s H (va_Pc As (kW G n I L X)) As := ⟨kW_blind, fun U hU hW => ⟨rfl, hUU U hU hW⟩⟩
  refine va_calli (va_runS (Ts := TB) (rest := rest) ⟨hx, hb, hml, hown, hTB⟩ hC ⟨callB_of cnt hTB (goodIn_TB (code_TB i3)) rfl rfl rfl (hTB _ i2) (hTB _ lk) i5 ⟨by show D' + 1 ≤ _; omega, by show 8 + (nL' + 11) + 36 * D' ≤ _; omega⟩, hTB _ i1⟩ hpre rfl hcnt hl.1 rfl (lv_room hW) hd ⟨by omega, by omega⟩) hS (fun q _ h => ?_) (fun q h => h) (fun v u t H1 locs1 ht hvm hp hB hz1 hk1 hS1 => by
    obtain ⟨b1, b2, -⟩ := hB
    have K9 := kk v u.1 u.2.1 u.2.2 hp (by omega) H1 locs1 ls (by rw [← ht]; exact b1) (by rw [← ht]; exact b2) hS1 hl
    rw [show n - n0 + (n1 - n) = n1 - n0 by omega, show 800 * (n - n0) + 800 * (n1 - n) = 800 * (n1 - n0) by omega]
    exact K9)
  exact h
theorem callS_z (hM : Mach l cc own nL D K G n0 J) {y : MethodName} {b' : ByteArray} {nL' D' cnt idx : Nat} (mi : MIs y b' nL' (some .boolean) cnt) (lk : Cond.methodLink own idx y ∈ TB) {As : List Value} {n1 : Nat} {post : Bool → kI → kL → kX → Prop} (hC : Kz l y b' nL' D' G As n n1 I L X post) (hcnt : As.length = cnt) {st : List Value} (hst : st = As.reverse ++ rest) (hD : D' + 1 ≤ D) (hn1 : n ≤ n1) (hKc : n1 ≤ n0 + K) (hW : (rest.map fun v => v.category).sum ≤ 8) (hd : decode cc pc = .ok (.invokestatic idx, 3)) (kk : ∀ (z : Bool) (I' : kI) (L' : kL) (X' : kX), post z I' L' X' → J n1 I' L' X' (pc + 3) lv (.int (bI z) :: rest)) : J n I L X pc lv st := by
  subst hst
  obtain ⟨p, e, Rm, s, m, args, below, meth, c, H0, Q, rfl, hx, hb, hml, hown, hT, hK, hbs, hR⟩ := hM
  intro hn H locs ls hz hP hS hl
  have hTB : ∀ w ∈ TB, w.before args s = true := fun w hw => hT w (inT_TB hw)
  have hUU : ∀ U : State, U.heap = H → s.WarmedH U.vm → kW G n I L X U := fun U hU hW => ⟨by rw [hU]; exact hz, by rw [hU]; exact hP, va_K.moved hW.alike hK, fun w hw => nest_warm hw.2 hW (va_Nw.of (nest_tab hw.2) (hT w ⟨hw.1, by rw [hw.2]; exact Bool.or_true _⟩)), hbs.2.moved hW.alike⟩
  obtain ⟨r1, r2, r3, r4⟩ := hR
  obtain ⟨i1, i2, i3, i5, i6⟩ := mi
  have hpre : PreS s H (va_Pc As (kW G n I L X)) As := ⟨kW_blind, fun U hU hW => ⟨rfl, hUU U hU hW⟩⟩
  refine va_calli (va_runS (Ts := TB) (rest := rest) ⟨hx, hb, hml, hown, hTB⟩ hC ⟨callB_of cnt hTB (goodIn_TB (code_TB i3)) rfl rfl rfl (hTB _ i2) (hTB _ lk) i5 ⟨by show D' + 1 ≤ _; omega, by show 8 + (nL' + 11) + 36 * D' ≤ _; omega⟩, hTB _ i1⟩ hpre rfl hcnt hl.1 rfl (lv_room hW) hd ⟨by omega, by omega⟩) hS (fun q _ h => ?_) (fun q h => h) (fun v u t H1 locs1 ht hvm hp hB hz1 hk1 hS1 => by
    obtain ⟨z, rfl, hp⟩ := hp
    obtain ⟨b1, b2, -⟩ := hB
    have K9 := kk z u.1 u.2.1 u.2.2 hp (by omega) H1 locs1 ls (by rw [← ht]; exact b1) (by rw [← ht]; exact b2) hS1 hl
    rw [show n - n0 + (n1 - n) = n1 - n0 by omega, show 800 * (n - n0) + 800 * (n1 - n) = 800 * (n1 - n0) by omega]
    exact K9)
  exact h
theorem callS_l (hM : Mach l cc own nL D K G n0 J) {y : MethodName} {b' : ByteArray} {nL' D' cnt idx : Nat} (mi : MIs y b' nL' (some .long) cnt) (lk : Cond.methodLink own idx y ∈ TB) {As : List Value} {n1 : Nat} {post : Int64 → kI → kL → kX → Prop} (hC : Kl l y b' nL' D' G As n n1 I L X post) (hcnt : As.length = cnt) {st : List Value} (hst : st = As.reverse ++ rest) (hD : D' + 1 ≤ D) (hn1 : n ≤ n1) (hKc : n1 ≤ n0 + K) (hW : (rest.map fun v => v.category).sum ≤ 8) (hd : decode cc pc = .ok (.invokestatic idx, 3)) (kk : ∀ (v : Int64) (I' : kI) (L' : kL) (X' : kX), post v I' L' X' → J n1 I' L' X' (pc + 3) lv (.long v :: rest)) : J n I L X pc lv st := by
  subst hst
  obtain ⟨p, e, Rm, s, m, args, below, meth, c, H0, Q, rfl, hx, hb, hml, hown, hT, hK, hbs, hR⟩ := hM
  intro hn H locs ls hz hP hS hl
  have hTB : ∀ w ∈ TB, w.before args s = true := fun w hw => hT w (inT_TB hw)
  have hUU : ∀ U : State, U.heap = H → s.WarmedH U.vm → kW G n I L X U := fun U hU hW => ⟨by rw [hU]; exact hz, by rw [hU]; exact hP, va_K.moved hW.alike hK, fun w hw => nest_warm hw.2 hW (va_Nw.of (nest_tab hw.2) (hT w ⟨hw.1, by rw [hw.2]; exact Bool.or_true _⟩)), hbs.2.moved hW.alike⟩
  obtain ⟨r1, r2, r3, r4⟩ := hR
  obtain ⟨i1, i2, i3, i5, i6⟩ := mi
  have hpre : PreS s H (va_Pc As (kW G n I L X)) As := ⟨kW_blind, fun U hU hW => ⟨rfl, hUU U hU hW⟩⟩
  refine va_calll (va_runS (Ts := TB) (rest := rest) ⟨hx, hb, hml, hown, hTB⟩ hC ⟨callB_of cnt hTB (goodIn_TB (code_TB i3)) rfl rfl rfl (hTB _ i2) (hTB _ lk) i5 ⟨by show D' + 1 ≤ _; omega, by show 8 + (nL' + 11) + 36 * D' ≤ _; omega⟩, hTB _ i1⟩ hpre rfl hcnt hl.1 rfl (lv_room hW) hd ⟨by omega, by omega⟩) hS (fun q _ h => ?_) (fun q h => h) (fun v u t H1 locs1 ht hvm hp hB hz1 hk1 hS1 => by
    obtain ⟨b1, b2, -⟩ := hB
    have K9 := kk v u.1 u.2.1 u.2.2 hp (by omega) H1 locs1 ls (by rw [← ht]; exact b1) (by rw [← ht]; exact b2) hS1 hl
    rw [show n - n0 + (n1 - n) = n1 - n0 by omega, show 800 * (n - n0) + 800 * (n1 - n) = 800 * (n1 - n0) by omega]
    exact K9)
  exact h
theorem callS_v (hM : Mach l cc own nL D K G n0 J) {y : MethodName} {b' : ByteArray} {nL' D' cnt idx : Nat} (mi : MIs y b' nL' none cnt) (lk : Cond.methodLink own idx y ∈ TB) {As : List Value} {n1 : Nat} {post : kI → kL → kX → Prop} (hC : Kv l y b' nL' D' G As n n1 I L X post) (hcnt : As.length = cnt) {st : List Value} (hst : st = As.reverse ++ rest) (hD : D' + 1 ≤ D) (hn1 : n ≤ n1) (hKc : n1 ≤ n0 + K) (hW : (rest.map fun v => v.category).sum ≤ 8) (hd : decode cc pc = .ok (.invokestatic idx, 3)) (kk : ∀ (I' : kI) (L' : kL) (X' : kX), post I' L' X' → J n1 I' L' X' (pc + 3) lv rest) : J n I L X pc lv st := by
  subst hst
  obtain ⟨p, e, Rm, s, m, args, below, meth, c, H0, Q, rfl, hx, hb, hml, hown, hT, hK, hbs, hR⟩ := hM
  intro hn H locs ls hz hP hS hl
  have hTB : ∀ w ∈ TB, w.before args s = true := fun w hw => hT w (inT_TB hw)
  have hUU : ∀ U : State, U.heap = H → s.WarmedH U.vm → kW G n I L X U := fun U hU hW => ⟨by rw [hU]; exact hz, by rw [hU]; exact hP, va_K.moved hW.alike hK, fun w hw => nest_warm hw.2 hW (va_Nw.of (nest_tab hw.2) (hT w ⟨hw.1, by rw [hw.2]; exact Bool.or_true _⟩)), hbs.2.moved hW.alike⟩
  obtain ⟨r1, r2, r3, r4⟩ := hR
  obtain ⟨i1, i2, i3, i5, i6⟩ := mi
  have hpre : PreS s H (va_Pc As (kW G n I L X)) As := ⟨kW_blind, fun U hU hW => ⟨rfl, hUU U hU hW⟩⟩
  refine va_callv (va_runS (Ts := TB) (rest := rest) ⟨hx, hb, hml, hown, hTB⟩ hC ⟨callB_of cnt hTB (goodIn_TB (code_TB i3)) rfl rfl rfl (hTB _ i2) (hTB _ lk) i5 ⟨by show D' + 1 ≤ _; omega, by show 8 + (nL' + 11) + 36 * D' ≤ _; omega⟩, hTB _ i1⟩ hpre rfl hcnt hl.1 rfl (lv_room hW) hd ⟨by omega, by omega⟩) hS (fun q _ h => ?_) (fun q h => h) (fun u t H1 locs1 ht hvm hp hB hz1 hk1 hS1 => by
    obtain ⟨b1, b2, -⟩ := hB
    have K9 := kk u.1 u.2.1 u.2.2 hp (by omega) H1 locs1 ls (by rw [← ht]; exact b1) (by rw [← ht]; exact b2) hS1 hl
    rw [show n - n0 + (n1 - n) = n1 - n0 by omega, show 800 * (n - n0) + 800 * (n1 - n) = 800 * (n1 - n0) by omega]
    exact K9)
  exact h
theorem callSN_z (hM : Mach l cc own nL D K G n0 J) {y : MethodName} {b' : ByteArray} {nL' D' cnt idx : Nat} {host : String} (mi : MIs y b' nL' (some .boolean) cnt) (lk : InT (Cond.methodLinkNest own idx y host)) {As : List Value} {n1 : Nat} {post : Bool → kI → kL → kX → Prop} (hC : Kz l y b' nL' D' G As n n1 I L X post) (hcnt : As.length = cnt) {st : List Value} (hst : st = As.reverse ++ rest) (hD : D' + 1 ≤ D) (hn1 : n ≤ n1) (hKc : n1 ≤ n0 + K) (hW : (rest.map fun v => v.category).sum ≤ 8) (hd : decode cc pc = .ok (.invokestatic idx, 3)) (kk : ∀ (z : Bool) (I' : kI) (L' : kL) (X' : kX), post z I' L' X' → J n1 I' L' X' (pc + 3) lv (.int (bI z) :: rest)) : J n I L X pc lv st := by
  subst hst
  obtain ⟨p, e, Rm, s, m, args, below, meth, c, H0, Q, rfl, hx, hb, hml, hown, hT, hK, hbs, hR⟩ := hM
  intro hn H locs ls hz hP hS hl
  have hTB : ∀ w ∈ TB, w.before args s = true := fun w hw => hT w (inT_TB hw)
  have hUU : ∀ U : State, U.heap = H → s.WarmedH U.vm → kW G n I L X U := fun U hU hW => ⟨by rw [hU]; exact hz, by rw [hU]; exact hP, va_K.moved hW.alike hK, fun w hw => nest_warm hw.2 hW (va_Nw.of (nest_tab hw.2) (hT w ⟨hw.1, by rw [hw.2]; exact Bool.or_true _⟩)), hbs.2.moved hW.alike⟩
  obtain ⟨r1, r2, r3, r4⟩ := hR
  obtain ⟨i1, i2, i3, i5, i6⟩ := mi
  have hpre : PreS s H (va_Pc As (kW G n I L X)) As := ⟨kW_blind, fun U hU hW => ⟨rfl, hUU U hU hW⟩⟩
  refine va_calli (va_runSN (Ts := TB) (rest := rest) ⟨hx, hb, hml, hown, hTB⟩ hC ⟨va_cnB cnt hTB (goodIn_TB (code_TB i3)) rfl rfl rfl (va_Nw.of rfl (hT _ lk)) (hTB _ i2) i5 ⟨by show D' + 1 ≤ _; omega, by show 8 + (nL' + 11) + 36 * D' ≤ _; omega⟩, hTB _ i1, trivial⟩ hpre rfl hcnt hl.1 rfl (lv_room hW) hd ⟨by omega, by omega⟩) hS (fun q _ h => ?_) (fun q h => h) (fun v u t H1 locs1 ht hvm hp hB hz1 hk1 hS1 => by
    obtain ⟨z, rfl, hp⟩ := hp
    obtain ⟨b1, b2, -⟩ := hB
    have K9 := kk z u.1 u.2.1 u.2.2 hp (by omega) H1 locs1 ls (by rw [← ht]; exact b1) (by rw [← ht]; exact b2) hS1 hl
    rw [show n - n0 + (n1 - n) = n1 - n0 by omega, show 800 * (n - n0) + 800 * (n1 - n) = 800 * (n1 - n0) by omega]
    exact K9)
  exact h
theorem callI_v (hM : Mach l cc own nL D K G n0 J) {y : MethodName} {b' : ByteArray} {nL' D' cnt idx : Nat} (mi : MIi y b' nL' cnt) (lk : Cond.methodLink own idx y ∈ TB) {r : Nat} {As : List Value} {n1 : Nat} {post : kI → kL → kX → Prop} (hC : Kv l y b' nL' D' G (.ref (ad G r) :: As) n n1 I L X post) (hcnt : As.length = cnt) {st : List Value} (hst : st = As.reverse ++ .ref (ad G r) :: rest) (hD : D' + 1 ≤ D) (hn1 : n ≤ n1) (hKc : n1 ≤ n0 + K) (hW : (rest.map fun v => v.category).sum ≤ 8) (hd : decode cc pc = .ok (.invokespecial idx, 3)) (kk : ∀ (I' : kI) (L' : kL) (X' : kX), post I' L' X' → J n1 I' L' X' (pc + 3) lv rest) : J n I L X pc lv st := by
  subst hst
  obtain ⟨p, e, Rm, s, m, args, below, meth, c, H0, Q, rfl, hx, hb, hml, hown, hT, hK, hbs, hR⟩ := hM
  intro hn H locs ls hz hP hS hl
  have hTB : ∀ w ∈ TB, w.before args s = true := fun w hw => hT w (inT_TB hw)
  have hUU : ∀ U : State, U.heap = H → s.WarmedH U.vm → kW G n I L X U := fun U hU hW => ⟨by rw [hU]; exact hz, by rw [hU]; exact hP, va_K.moved hW.alike hK, fun w hw => nest_warm hw.2 hW (va_Nw.of (nest_tab hw.2) (hT w ⟨hw.1, by rw [hw.2]; exact Bool.or_true _⟩)), hbs.2.moved hW.alike⟩
  obtain ⟨r1, r2, r3, r4⟩ := hR
  obtain ⟨i1, i2, i3, i5, i6, i7⟩ := mi
  have hpre : PreS s H (va_Pc (.ref (ad G r) :: As) (kW G n I L X)) (.ref (ad G r) :: As) := ⟨kW_blind, fun U hU hW => ⟨rfl, hUU U hU hW⟩⟩
  refine va_callv (va_runI (Ts := TB) (rest := rest) ⟨hx, hb, hml, hown, hTB⟩ hC ⟨callB_of cnt hTB (goodIn_TB (code_TB i3)) rfl rfl rfl (hTB _ i2) (hTB _ lk) i5 ⟨by show D' + 1 ≤ _; omega, by show 8 + (nL' + 11) + 36 * D' ≤ _; omega⟩, i7, hTB _ i1⟩ hpre rfl hcnt hl.1 rfl (lv_room hW) hd ⟨by omega, by omega⟩) hS (fun q _ h => ?_) (fun q h => h) (fun u t H1 locs1 ht hvm hp hB hz1 hk1 hS1 => by
    obtain ⟨b1, b2, -⟩ := hB
    have K9 := kk u.1 u.2.1 u.2.2 hp (by omega) H1 locs1 ls (by rw [← ht]; exact b1) (by rw [← ht]; exact b2) hS1 hl
    rw [show n - n0 + (n1 - n) = n1 - n0 by omega, show 800 * (n - n0) + 800 * (n1 - n) = 800 * (n1 - n0) by omega]
    exact K9)
  exact h
theorem callIN_v (hM : Mach l cc own nL D K G n0 J) {y : MethodName} {b' : ByteArray} {nL' D' cnt idx : Nat} (mi : MIi y b' nL' cnt) {host : String} (lk : InT (Cond.methodLinkNest own idx y host)) {r : Nat} {As : List Value} {n1 : Nat} {post : kI → kL → kX → Prop} (hC : Kv l y b' nL' D' G (.ref (ad G r) :: As) n n1 I L X post) (hcnt : As.length = cnt) {st : List Value} (hst : st = As.reverse ++ .ref (ad G r) :: rest) (hD : D' + 1 ≤ D) (hn1 : n ≤ n1) (hKc : n1 ≤ n0 + K) (hW : (rest.map fun v => v.category).sum ≤ 8) (hd : decode cc pc = .ok (.invokespecial idx, 3)) (kk : ∀ (I' : kI) (L' : kL) (X' : kX), post I' L' X' → J n1 I' L' X' (pc + 3) lv rest) : J n I L X pc lv st := by
  subst hst
  obtain ⟨p, e, Rm, s, m, args, below, meth, c, H0, Q, rfl, hx, hb, hml, hown, hT, hK, hbs, hR⟩ := hM
  intro hn H locs ls hz hP hS hl
  have hTB : ∀ w ∈ TB, w.before args s = true := fun w hw => hT w (inT_TB hw)
  have hUU : ∀ U : State, U.heap = H → s.WarmedH U.vm → kW G n I L X U := fun U hU hW => ⟨by rw [hU]; exact hz, by rw [hU]; exact hP, va_K.moved hW.alike hK, fun w hw => nest_warm hw.2 hW (va_Nw.of (nest_tab hw.2) (hT w ⟨hw.1, by rw [hw.2]; exact Bool.or_true _⟩)), hbs.2.moved hW.alike⟩
  obtain ⟨r1, r2, r3, r4⟩ := hR
  obtain ⟨i1, i2, i3, i5, i6, i7⟩ := mi
  have hpre : PreS s H (va_Pc (.ref (ad G r) :: As) (kW G n I L X)) (.ref (ad G r) :: As) := ⟨kW_blind, fun U hU hW => ⟨rfl, hUU U hU hW⟩⟩
  refine va_callv (va_runIN (Ts := TB) (rest := rest) ⟨hx, hb, hml, hown, hTB⟩ hC ⟨va_cnB cnt hTB (goodIn_TB (code_TB i3)) rfl rfl rfl (va_Nw.of rfl (hT _ lk)) (hTB _ i2) i5 ⟨by show D' + 1 ≤ _; omega, by show 8 + (nL' + 11) + 36 * D' ≤ _; omega⟩, i7, hTB _ i1⟩ hpre rfl hcnt hl.1 rfl (lv_room hW) hd ⟨by omega, by omega⟩) hS (fun q _ h => ?_) (fun q h => h) (fun u t H1 locs1 ht hvm hp hB hz1 hk1 hS1 => by
    obtain ⟨b1, b2, -⟩ := hB
    have K9 := kk u.1 u.2.1 u.2.2 hp (by omega) H1 locs1 ls (by rw [← ht]; exact b1) (by rw [← ht]; exact b2) hS1 hl
    rw [show n - n0 + (n1 - n) = n1 - n0 by omega, show 800 * (n - n0) + 800 * (n1 - n) = 800 * (n1 - n0) by omega]
    exact K9)
  exact h
theorem q_abs (hM : Mach l cc own nL D K G n0 J) {idx : Nat} {x : Int32} (lk : Cond.methodLink own idx Lib.Math.abs.name ∈ TB) (h2 : Cond.static Lib.Math.abs.name ∈ TB) (h3 : Cond.initialized "java/lang/Math" ∈ TB) (h4 : Cond.code Lib.Math.abs.name Lib.Math.abs.code 1 (some .int) ∈ TB) (hD : 1 ≤ D) (hKc : n ≤ n0 + K) (hW : (rest.map fun v => v.category).sum ≤ 8) (hd : decode cc pc = .ok (.invokestatic idx, 3)) (kk : J n I L X (pc + 3) lv (.int (if 0 ≤ x then x else 0 - x) :: rest)) : J n I L X pc lv (.int x :: rest) := by
  obtain ⟨p, e, Rm, s, m, args, below, meth, c, H0, Q, rfl, hx, hb, hml, hown, hT, hK, hbs, hR⟩ := hM
  intro hn H locs ls hz hP hS hl
  have hTB : ∀ w ∈ TB, w.before args s = true := fun w hw => hT w (inT_TB hw)
  have hUU : ∀ U : State, U.heap = H → s.WarmedH U.vm → kW G n I L X U := fun U hU hW => ⟨by rw [hU]; exact hz, by rw [hU]; exact hP, va_K.moved hW.alike hK, fun w hw => nest_warm hw.2 hW (va_Nw.of (nest_tab hw.2) (hT w ⟨hw.1, by rw [hw.2]; exact Bool.or_true _⟩)), hbs.2.moved hW.alike⟩
  obtain ⟨r1, r2, r3, r4⟩ := hR
  exact va_mabs hx hb (hml.trans hl.1.symm) hown (hTB _ lk) (hTB _ h2) (hTB _ h3) (hTB _ h4) (by omega) (by omega) (by omega) (by omega) hd (kk hn H locs ls hz hP hS hl)
theorem q_objInit (hM : Mach l cc own nL D K G n0 J) {idx r : Nat} (lk : Cond.methodLink own idx objectInit ∈ TB) (h2 : Cond.instanceMethod objectInit ∈ TB) (h3 : Cond.code objectInit ⟨#[0xb1]⟩ 1 none ∈ TB) (hD : 1 ≤ D) (hd : decode cc pc = .ok (.invokespecial idx, 3)) (hW : (rest.map fun v => v.category).sum ≤ 8) (kk : J n I L X (pc + 3) lv rest) : J n I L X pc lv (.ref (ad G r) :: rest) := by
  obtain ⟨p, e, Rm, s, m, args, below, meth, c, H0, Q, rfl, hx, hb, hml, hown, hT, hK, hbs, hR⟩ := hM
  intro hn H locs ls hz hP hS hl
  have hTB : ∀ w ∈ TB, w.before args s = true := fun w hw => hT w (inT_TB hw)
  have hUU : ∀ U : State, U.heap = H → s.WarmedH U.vm → kW G n I L X U := fun U hU hW => ⟨by rw [hU]; exact hz, by rw [hU]; exact hP, va_K.moved hW.alike hK, fun w hw => nest_warm hw.2 hW (va_Nw.of (nest_tab hw.2) (hT w ⟨hw.1, by rw [hw.2]; exact Bool.or_true _⟩)), hbs.2.moved hW.alike⟩
  obtain ⟨r1, r2, r3, r4⟩ := hR
  exact W.objInit hx hb hown (hTB _ lk) (hTB _ h2) (hTB _ h3) rfl (by rw [hml]; exact hl.1) rfl hd (by omega) (by show 2 * 0 + _ + 12 ≤ _; omega) (kk hn H locs ls hz hP hS hl)
end QC
theorem Ki_intro {l : Launch} {y : MethodName} {b : ByteArray} {nL D : Nat} {G : kG} {av : List Value} {n n1 : Nat} {I : kI} {L : kL} {X : kX} {post : Int32 → kI → kL → kX → Prop} {own : String} {lv0 : kV} (mm : Nat) (hy : plainName y.cls = true) (hown : y.cls = own) (hlv : lvI av ++ List.replicate mm none = lv0) (hlen : (lg_sl av).length ≤ nL) (hn1 : n ≤ n1)
    (body : ∀ J : kJ, Mach l b own nL D (n1 - n) G n J → (∀ (v : Int32) (I' : kI) (L' : kL) (X' : kX) (pc : Nat) (lv : kV), post v I' L' X' → decode b pc = .ok (.ireturn, 1) → J n1 I' L' X' pc lv [.int v]) → J n I L X 0 lv0 []) : Ki l y b nL D G av n n1 I L X post := by
  refine Met.ofW (cc := b) (maxL := nL) (ret := (some .int)) hy rfl ?_
  intro p e s m args below meth c s₁ B hml hv
  obtain ⟨rfl, hsz, hP, hK, hNw, hAO⟩ := hv
  have hx := B.exec
  have hb := B.bytes
  have hr := B.returns
  have hts := atoms_spec (ws := .code y b nL (some .int) :: TB) B.pre
  have hown' : s.vm.findClass own = some m.cls := by rw [← hown]; exact findClass_of_methodNamed B.named
  have hlocks := B.notSynchronized
  have hT : ∀ w, InT w → w.before av.toArray s = true := by
    intro w hw
    by_cases hg : goodWord w = true
    · exact hts w (List.mem_cons_of_mem _ (List.mem_filter.mpr ⟨hw.1, hg⟩))
    · have h1 := hw.2
      rw [Bool.eq_false_iff.mpr hg, Bool.false_or] at h1
      exact va_Nw.use (nest_tab h1) (hNw w ⟨hw.1, h1⟩)
  rw [lg_entry_eq]
  have hl := lvO_entry (m := mm) av hlen
  rw [hlv] at hl
  generalize (lg_sl av ++ List.replicate (nL - (lg_sl av).length) Slot.unset).toArray = ls at hl ⊢
  have K := body (kVd p l e (rmd D (n1 - n)) s m av.toArray below meth c nL G s.heap (MQ below (va_Qi (fun r (u : kS) => post r u.1 u.2.1 u.2.2) (fun (u : kS) t => kW G n1 u.1 u.2.1 u.2.2 t) (kF G)) av.toArray s (n1 - n) (800 * (n1 - n)) (kF G)) n) ⟨p, e, _, s, m, _, below, meth, c, s.heap, _, rfl, hx, hb, hml, hown', hT, hK, ⟨by omega, hAO⟩, ⟨Nat.le_refl _, Nat.le_refl _, Nat.le_refl _, Nat.le_refl _⟩⟩ ?_ (Nat.le_refl n) s.heap [] ls hsz hP va_S.rf hl
  · rw [Nat.sub_self] at K
    exact K
  · intro v I' L' X' pc lv hp hd hn' H locs ls' hz hP' hS hl'
    have fin : ∀ t : State, t.heap = H → s.WarmedH t.vm → kW G n1 I' L' X' t := fun t ht hW => ⟨by rw [ht]; exact hz, by rw [ht]; exact hP', va_K.moved hW.alike hK, fun w hw => nest_warm hw.2 hW (hNw w hw), hAO.moved hW.alike⟩
    exact W.iret hx hb hr (fun t ht hW => ⟨⟨v, (I', L', X'), rfl, hp, fin t ht hW⟩, hS.F ht⟩) hS.2.2 hd
theorem Kl_intro {l : Launch} {y : MethodName} {b : ByteArray} {nL D : Nat} {G : kG} {av : List Value} {n n1 : Nat} {I : kI} {L : kL} {X : kX} {post : Int64 → kI → kL → kX → Prop} {own : String} {lv0 : kV} (mm : Nat) (hy : plainName y.cls = true) (hown : y.cls = own) (hlv : lvI av ++ List.replicate mm none = lv0) (hlen : (lg_sl av).length ≤ nL) (hn1 : n ≤ n1)
    (body : ∀ J : kJ, Mach l b own nL D (n1 - n) G n J → (∀ (v : Int64) (I' : kI) (L' : kL) (X' : kX) (pc : Nat) (lv : kV), post v I' L' X' → decode b pc = .ok (.lreturn, 1) → J n1 I' L' X' pc lv [.long v]) → J n I L X 0 lv0 []) : Kl l y b nL D G av n n1 I L X post := by
  refine Met.ofW (cc := b) (maxL := nL) (ret := (some .long)) hy rfl ?_
  intro p e s m args below meth c s₁ B hml hv
  obtain ⟨rfl, hsz, hP, hK, hNw, hAO⟩ := hv
  have hx := B.exec
  have hb := B.bytes
  have hr := B.returns
  have hts := atoms_spec (ws := .code y b nL (some .long) :: TB) B.pre
  have hown' : s.vm.findClass own = some m.cls := by rw [← hown]; exact findClass_of_methodNamed B.named
  have hlocks := B.notSynchronized
  have hT : ∀ w, InT w → w.before av.toArray s = true := by
    intro w hw
    by_cases hg : goodWord w = true
    · exact hts w (List.mem_cons_of_mem _ (List.mem_filter.mpr ⟨hw.1, hg⟩))
    · have h1 := hw.2
      rw [Bool.eq_false_iff.mpr hg, Bool.false_or] at h1
      exact va_Nw.use (nest_tab h1) (hNw w ⟨hw.1, h1⟩)
  rw [lg_entry_eq]
  have hl := lvO_entry (m := mm) av hlen
  rw [hlv] at hl
  generalize (lg_sl av ++ List.replicate (nL - (lg_sl av).length) Slot.unset).toArray = ls at hl ⊢
  have K := body (kVd p l e (rmd D (n1 - n)) s m av.toArray below meth c nL G s.heap (MQ below (va_Ql (fun r (u : kS) => post r u.1 u.2.1 u.2.2) (fun (u : kS) t => kW G n1 u.1 u.2.1 u.2.2 t) (kF G)) av.toArray s (n1 - n) (800 * (n1 - n)) (kF G)) n) ⟨p, e, _, s, m, _, below, meth, c, s.heap, _, rfl, hx, hb, hml, hown', hT, hK, ⟨by omega, hAO⟩, ⟨Nat.le_refl _, Nat.le_refl _, Nat.le_refl _, Nat.le_refl _⟩⟩ ?_ (Nat.le_refl n) s.heap [] ls hsz hP va_S.rf hl
  · rw [Nat.sub_self] at K
    exact K
  · intro v I' L' X' pc lv hp hd hn' H locs ls' hz hP' hS hl'
    have fin : ∀ t : State, t.heap = H → s.WarmedH t.vm → kW G n1 I' L' X' t := fun t ht hW => ⟨by rw [ht]; exact hz, by rw [ht]; exact hP', va_K.moved hW.alike hK, fun w hw => nest_warm hw.2 hW (hNw w hw), hAO.moved hW.alike⟩
    exact W.lret hx hb hr (fun t ht hW => ⟨⟨v, (I', L', X'), rfl, hp, fin t ht hW⟩, hS.F ht⟩) hS.2.2 hd
theorem Kv_intro {l : Launch} {y : MethodName} {b : ByteArray} {nL D : Nat} {G : kG} {av : List Value} {n n1 : Nat} {I : kI} {L : kL} {X : kX} {post : kI → kL → kX → Prop} {own : String} {lv0 : kV} (mm : Nat) (hy : plainName y.cls = true) (hown : y.cls = own) (hlv : lvI av ++ List.replicate mm none = lv0) (hlen : (lg_sl av).length ≤ nL) (hn1 : n ≤ n1)
    (body : ∀ J : kJ, Mach l b own nL D (n1 - n) G n J → (∀ (I' : kI) (L' : kL) (X' : kX) (pc : Nat) (lv : kV), post I' L' X' → decode b pc = .ok (.return_, 1) → J n1 I' L' X' pc lv []) → J n I L X 0 lv0 []) : Kv l y b nL D G av n n1 I L X post := by
  refine Met.ofW (cc := b) (maxL := nL) (ret := none) hy rfl ?_
  intro p e s m args below meth c s₁ B hml hv
  obtain ⟨rfl, hsz, hP, hK, hNw, hAO⟩ := hv
  have hx := B.exec
  have hb := B.bytes
  have hr := B.returns
  have hts := atoms_spec (ws := .code y b nL none :: TB) B.pre
  have hown' : s.vm.findClass own = some m.cls := by rw [← hown]; exact findClass_of_methodNamed B.named
  have hlocks := B.notSynchronized
  have hT : ∀ w, InT w → w.before av.toArray s = true := by
    intro w hw
    by_cases hg : goodWord w = true
    · exact hts w (List.mem_cons_of_mem _ (List.mem_filter.mpr ⟨hw.1, hg⟩))
    · have h1 := hw.2
      rw [Bool.eq_false_iff.mpr hg, Bool.false_or] at h1
      exact va_Nw.use (nest_tab h1) (hNw w ⟨hw.1, h1⟩)
  rw [lg_entry_eq]
  have hl := lvO_entry (m := mm) av hlen
  rw [hlv] at hl
  generalize (lg_sl av ++ List.replicate (nL - (lg_sl av).length) Slot.unset).toArray = ls at hl ⊢
  have K := body (kVd p l e (rmd D (n1 - n)) s m av.toArray below meth c nL G s.heap (MQ below (va_Qv (fun (u : kS) => post u.1 u.2.1 u.2.2) (fun (u : kS) t => kW G n1 u.1 u.2.1 u.2.2 t) (kF G)) av.toArray s (n1 - n) (800 * (n1 - n)) (kF G)) n) ⟨p, e, _, s, m, _, below, meth, c, s.heap, _, rfl, hx, hb, hml, hown', hT, hK, ⟨by omega, hAO⟩, ⟨Nat.le_refl _, Nat.le_refl _, Nat.le_refl _, Nat.le_refl _⟩⟩ ?_ (Nat.le_refl n) s.heap [] ls hsz hP va_S.rf hl
  · rw [Nat.sub_self] at K
    exact K
  · intro I' L' X' pc lv hp hd hn' H locs ls' hz hP' hS hl'
    have fin : ∀ t : State, t.heap = H → s.WarmedH t.vm → kW G n1 I' L' X' t := fun t ht hW => ⟨by rw [ht]; exact hz, by rw [ht]; exact hP', va_K.moved hW.alike hK, fun w hw => nest_warm hw.2 hW (hNw w hw), hAO.moved hW.alike⟩
    exact W.vret hx hb hr (fun t ht hW => ⟨⟨(I', L', X'), rfl, hp, fin t ht hW⟩, hS.F ht⟩) hS.2.2 hd
theorem Kz_intro {l : Launch} {y : MethodName} {b : ByteArray} {nL D : Nat} {G : kG} {av : List Value} {n n1 : Nat} {I : kI} {L : kL} {X : kX} {post : Bool → kI → kL → kX → Prop} {own : String} {lv0 : kV} (mm : Nat) (hy : plainName y.cls = true) (hown : y.cls = own) (hlv : lvI av ++ List.replicate mm none = lv0) (hlen : (lg_sl av).length ≤ nL) (hn1 : n ≤ n1)
    (body : ∀ J : kJ, Mach l b own nL D (n1 - n) G n J → (∀ (z : Bool) (v : Int32) (I' : kI) (L' : kL) (X' : kX) (pc : Nat) (lv : kV), v = bI z → post z I' L' X' → decode b pc = .ok (.ireturn, 1) → J n1 I' L' X' pc lv [.int v]) → J n I L X 0 lv0 []) : Kz l y b nL D G av n n1 I L X post := by
  refine Met.ofW (cc := b) (maxL := nL) (ret := (some .boolean)) hy rfl ?_
  intro p e s m args below meth c s₁ B hml hv
  obtain ⟨rfl, hsz, hP, hK, hNw, hAO⟩ := hv
  have hx := B.exec
  have hb := B.bytes
  have hr := B.returns
  have hts := atoms_spec (ws := .code y b nL (some .boolean) :: TB) B.pre
  have hown' : s.vm.findClass own = some m.cls := by rw [← hown]; exact findClass_of_methodNamed B.named
  have hlocks := B.notSynchronized
  have hT : ∀ w, InT w → w.before av.toArray s = true := by
    intro w hw
    by_cases hg : goodWord w = true
    · exact hts w (List.mem_cons_of_mem _ (List.mem_filter.mpr ⟨hw.1, hg⟩))
    · have h1 := hw.2
      rw [Bool.eq_false_iff.mpr hg, Bool.false_or] at h1
      exact va_Nw.use (nest_tab h1) (hNw w ⟨hw.1, h1⟩)
  rw [lg_entry_eq]
  have hl := lvO_entry (m := mm) av hlen
  rw [hlv] at hl
  generalize (lg_sl av ++ List.replicate (nL - (lg_sl av).length) Slot.unset).toArray = ls at hl ⊢
  have K := body (kVd p l e (rmd D (n1 - n)) s m av.toArray below meth c nL G s.heap (MQ below (va_Qi (fun r (u : kS) => ∃ z : Bool, r = bI z ∧ post z u.1 u.2.1 u.2.2) (fun (u : kS) t => kW G n1 u.1 u.2.1 u.2.2 t) (kF G)) av.toArray s (n1 - n) (800 * (n1 - n)) (kF G)) n) ⟨p, e, _, s, m, _, below, meth, c, s.heap, _, rfl, hx, hb, hml, hown', hT, hK, ⟨by omega, hAO⟩, ⟨Nat.le_refl _, Nat.le_refl _, Nat.le_refl _, Nat.le_refl _⟩⟩ ?_ (Nat.le_refl n) s.heap [] ls hsz hP va_S.rf hl
  · rw [Nat.sub_self] at K
    exact K
  · intro z v I' L' X' pc lv hv hp hd hn' H locs ls' hz hP' hS hl'
    have fin : ∀ t : State, t.heap = H → s.WarmedH t.vm → kW G n1 I' L' X' t := fun t ht hW => ⟨by rw [ht]; exact hz, by rw [ht]; exact hP', va_K.moved hW.alike hK, fun w hw => nest_warm hw.2 hW (hNw w hw), hAO.moved hW.alike⟩
    exact W.zret hx hb hr (by subst hv; cases z <;> rfl) (fun t ht hW => ⟨⟨v, (I', L', X'), rfl, ⟨z, hv, hp⟩, fin t ht hW⟩, hS.F ht⟩) hS.2.2 hd
theorem Kq_intro {l : Launch} {y : MethodName} {b : ByteArray} {nL D : Nat} {Cr : String} {G : kG} {av : List Value} {n n1 : Nat} {I : kI} {L : kL} {X : kX} {post : Option Nat → kI → kL → kX → Prop} {own : String} {lv0 : kV} (mm : Nat) (hy : plainName y.cls = true) (hown : y.cls = own) (hlv : lvI av ++ List.replicate mm none = lv0) (hlen : (lg_sl av).length ≤ nL) (hn1 : n ≤ n1)
    (body : ∀ J : kJ, Mach l b own nL D (n1 - n) G n J → (∀ (q : Option Nat) (I' : kI) (L' : kL) (X' : kX) (pc : Nat) (lv : kV), post q I' L' X' → decode b pc = .ok (.areturn, 1) → J n1 I' L' X' pc lv [rfv G q]) → J n I L X 0 lv0 []) : Kq l y b nL Cr D G av n n1 I L X post := by
  refine Met.ofW (cc := b) (maxL := nL) (ret := (some (.object Cr))) hy rfl ?_
  intro p e s m args below meth c s₁ B hml hv
  obtain ⟨rfl, hsz, hP, hK, hNw, hAO⟩ := hv
  have hx := B.exec
  have hb := B.bytes
  have hr := B.returns
  have hts := atoms_spec (ws := .code y b nL (some (.object Cr)) :: TB) B.pre
  have hown' : s.vm.findClass own = some m.cls := by rw [← hown]; exact findClass_of_methodNamed B.named
  have hlocks := B.notSynchronized
  have hT : ∀ w, InT w → w.before av.toArray s = true := by
    intro w hw
    by_cases hg : goodWord w = true
    · exact hts w (List.mem_cons_of_mem _ (List.mem_filter.mpr ⟨hw.1, hg⟩))
    · have h1 := hw.2
      rw [Bool.eq_false_iff.mpr hg, Bool.false_or] at h1
      exact va_Nw.use (nest_tab h1) (hNw w ⟨hw.1, h1⟩)
  rw [lg_entry_eq]
  have hl := lvO_entry (m := mm) av hlen
  rw [hlv] at hl
  generalize (lg_sl av ++ List.replicate (nL - (lg_sl av).length) Slot.unset).toArray = ls at hl ⊢
  have K := body (kVd p l e (rmd D (n1 - n)) s m av.toArray below meth c nL G s.heap (MQ below (va_Qq (fun r (u : kS) => ∃ q : Option Nat, r = q.map (ad G) ∧ post q u.1 u.2.1 u.2.2) (fun (u : kS) t => kW G n1 u.1 u.2.1 u.2.2 t) (kF G)) av.toArray s (n1 - n) (800 * (n1 - n)) (kF G)) n) ⟨p, e, _, s, m, _, below, meth, c, s.heap, _, rfl, hx, hb, hml, hown', hT, hK, ⟨by omega, hAO⟩, ⟨Nat.le_refl _, Nat.le_refl _, Nat.le_refl _, Nat.le_refl _⟩⟩ ?_ (Nat.le_refl n) s.heap [] ls hsz hP va_S.rf hl
  · rw [Nat.sub_self] at K
    exact K
  · intro q I' L' X' pc lv hp hd hn' H locs ls' hz hP' hS hl'
    have fin : ∀ t : State, t.heap = H → s.WarmedH t.vm → kW G n1 I' L' X' t := fun t ht hW => ⟨by rw [ht]; exact hz, by rw [ht]; exact hP', va_K.moved hW.alike hK, fun w hw => nest_warm hw.2 hW (hNw w hw), hAO.moved hW.alike⟩
    exact W.aret hx hb hr (Or.inl ⟨_, rfl⟩) (va_rf_or _) (fun t ht hW => ⟨⟨q.map (ad G), (I', L', X'), rfl, ⟨q, rfl, hp⟩, fin t ht hW⟩, hS.F ht⟩) hS.2.2 hd
