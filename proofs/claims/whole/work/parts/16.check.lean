/-! what is checked of every method, by evaluation; printed by wip/whole/gen_ck.py -/
noncomputable def am_mq (k : Nat) : am_J := am_ms.getD k (⟨"", "", ""⟩, ⟨#[]⟩, 0, none, [], 0, 0, 0, 0)
noncomputable def am_cw (k : Nat) : Cond := if (am_mq k).2.2.2.2.1.isEmpty then .code (am_mq k).1 (am_mq k).2.1 (am_mq k).2.2.1 (am_mq k).2.2.2.1 else .codeWith (am_mq k).1 (am_mq k).2.1 (am_mq k).2.2.1 (am_mq k).2.2.2.1 (am_mq k).2.2.2.2.1
def am_in (w : Cond) : Bool := lw_tbl.any (fun x => decide (x = w)) && (goodWord w || (w.onTables && w.keepsFace))
theorem am_in_of {w : Cond} (h : am_in w = true) : (w ∈ am_ws ∨ w ∈ am_nw) ∧ vx_ot w = true := by
  simp only [am_in, Bool.and_eq_true, List.any_eq_true, decide_eq_true_eq, Bool.or_eq_true] at h
  obtain ⟨⟨x, hx, rfl⟩, h2⟩ := h
  rcases h2 with h2 | ⟨h2, h3⟩
  · exact ⟨Or.inl (List.mem_filter.mpr ⟨hx, h2⟩), by simp [vx_ot, h2]⟩
  · exact ⟨Or.inr (List.mem_filter.mpr ⟨hx, by simp [h2, h3]⟩), by simp [vx_ot, h2]⟩
/-- the call of the next constructor within E.<init>(String) -/
def am_ix (E : Nat) : Nat := if E = 104 then 13 else 7
def am_rx (E : Nat) : ByteArray := if E = 104 then prog_25_method_4_code else Bundle.six
theorem am_rx_ok (E : Nat) : decode (am_rx E) 0 = .ok (.aload_n 0, 1) ∧ decode (am_rx E) 1 = .ok (.aload_n 1, 1) ∧ decode (am_rx E) 2 = .ok (.invokespecial (am_ix E), 3) ∧ decode (am_rx E) 5 = .ok (.return_, 1) := by
  unfold am_rx am_ix
  split <;> exact ⟨by decide +kernel, by decide +kernel, by decide +kernel, by decide +kernel⟩
def am_exs : List String := ["java/lang/RuntimeException", "java/lang/Exception"]
def am_thr : List (String × Nat × Nat × Nat) := [("RangingStation", 116, 120, 101), ("RangingStation", 151, 155, 100), ("RangingStation", 209, 213, 104), ("RangingStation", 214, 218, 102), ("RangingStation", 419, 423, 103)]
def am_okT (q : String × Nat × Nat × Nat) : Bool := am_in (.classLink q.1 q.2.1 (am_exn q.2.2.2)) && am_in (.initialized (am_exn q.2.2.2)) && ((Bundle.ownAtomsX q.1 q.2.2.1 (am_exn q.2.2.2) (am_ix q.2.2.2) (am_rx q.2.2.2) am_exs).filter vx_no).all am_in && Bundle.fit (am_exn q.2.2.2)
theorem thr_0 : am_okT ("RangingStation", 116, 120, 101) = true := by decide +kernel
theorem thr_1 : am_okT ("RangingStation", 151, 155, 100) = true := by decide +kernel
theorem thr_2 : am_okT ("RangingStation", 209, 213, 104) = true := by decide +kernel
theorem thr_3 : am_okT ("RangingStation", 214, 218, 102) = true := by decide +kernel
theorem thr_4 : am_okT ("RangingStation", 419, 423, 103) = true := by decide +kernel
theorem am_exs_ok : ∀ n ∈ am_exs, Bundle.fit n = true := by decide +kernel
theorem am_thr_ok : ∀ q ∈ am_thr, am_okT q = true := by
  intro q hq
  simp only [am_thr, List.mem_cons, List.not_mem_nil, or_false] at hq
  rcases hq with rfl | rfl | rfl | rfl | rfl
  · exact thr_0
  · exact thr_1
  · exact thr_2
  · exact thr_3
  · exact thr_4
def am_pn (d : String) (n : Nat) : Bool := match parseMethodDescriptor d with
  | some sig => decide (sig.parameters.length = n)
  | none => false
def am_lk (own : String) (ns : Bool) (idx w : Nat) (y : MethodName) : Bool := if ns then am_nests.any (fun q => decide (q.1 = own ∧ q.2.1 = idx ∧ q.2.2.1 = y)) else am_hw w (.methodLink own idx y)
def am_rc (v : Value) (C : String) : Bool := match v with
  | .retAddr ci => match am_cls[ci]? with
    | some q => decide (q.1 = C)
    | none => false
  | _ => false
noncomputable def am_ck2 (own : String) (cc : ByteArray) (ret : Option FieldType) (hh : Bool) (i : Instr) (a b c w w2 : Nat) (v : Value) (pc : Nat) : Bool := match i with
  | .invokestatic idx => if a = 0 ∨ a = 10 then decide (b < 232) && am_lk own (decide (a = 10)) idx w (am_mq b).1 && am_hw w2 (.static (am_mq b).1) && am_pn (am_mq b).1.desc c else true
  | .invokevirtual idx => if a = 1 then decide (b < 232) && decide (1 ≤ c) && am_lk own false idx w (am_mq b).1 && am_hw w2 (.instanceMethod (am_mq b).1) && am_hw (am_mq b).2.2.2.2.2.2.2.2 (.selects (am_mq b).1.cls (am_mq b).1 (am_mq b).1) && am_pn (am_mq b).1.desc (c - 1) && am_rc v (am_mq b).1.cls else true
  | .invokespecial idx => if a = 2 ∨ a = 12 then decide (b < 232) && decide (1 ≤ c) && am_lk own (decide (a = 12)) idx w (am_mq b).1 && am_hw w2 (.instanceMethod (am_mq b).1) && decide ((am_mq b).1.name = "<init>") && (am_mq b).2.2.2.2.1.isEmpty && decide ((am_mq b).2.2.2.1 = none) && am_pn (am_mq b).1.desc (c - 1) && am_rc v (am_mq b).1.cls else true
  | .new idx => if a < 9 then true else hh && decide ((own, idx, w2, a) ∈ am_thr) && am_strs.any (fun q => decide (q.1 = own ∧ q.2.1 = b)) && decide (decode cc (pc + 3) = .ok (.dup, 1)) &&
    ((decide (decode cc (pc + 4) = .ok (.ldc b, 2)) && decide (decode cc (pc + 6) = .ok (.invokespecial w2, 3)) && decide (decode cc (pc + 9) = .ok (.athrow, 1))) ||
     (decide (decode cc (pc + 4) = .ok (.ldc_w b, 3)) && decide (decode cc (pc + 7) = .ok (.invokespecial w2, 3)) && decide (decode cc (pc + 10) = .ok (.athrow, 1))))
  | .ireturn => (c == 0 && decide (ret = some .int)) || (c == 2 && decide (ret = some .boolean))
  | .lreturn => decide (ret = some .long)
  | .dreturn => decide (ret = some .double)
  | .areturn => match ret with
    | some (.object _) => true
    | some (.array _) => true
    | _ => false
  | .return_ => decide (ret = none)
  | _ => true
/-- an instruction -/
noncomputable def am_cki (k : Nat) (q : am_I) : Bool :=
  decide (decode (am_mq k).2.1 q.1 = .ok (q.2.1, am_ln q.2.1 q.2.2.1)) &&
  am_ck1 (am_mq k).1.cls (am_mq k).2.2.1 (decide ((am_mq k).1.name = "<init>")) q.2.1 q.2.2.2.1 q.2.2.2.2.1 q.2.2.2.2.2.1 q.2.2.2.2.2.2.1 q.2.2.2.2.2.2.2.1 q.2.2.2.2.2.2.2.2 q.1 &&
  am_ck2 (am_mq k).1.cls (am_mq k).2.1 (am_mq k).2.2.2.1 (am_mq k).2.2.2.2.1.isEmpty q.2.1 q.2.2.2.1 q.2.2.2.2.1 q.2.2.2.2.2.1 q.2.2.2.2.2.2.1 q.2.2.2.2.2.2.2.1 q.2.2.2.2.2.2.2.2 q.1
/-- the handlers -/
def am_ckh (own : String) : List (Nat × Nat × Nat × Nat × Nat) → List (Nat × Nat × Nat × Nat) → Bool
  | [], [] => true
  | h :: hs, x :: xs => decide (h.1 = x.1 ∧ h.2.1 = x.2.1 ∧ h.2.2.1 = x.2.2.1 ∧ x.2.2.2 ≠ 0) && am_hw h.2.2.2.2 (.classLink own x.2.2.2 (am_exn h.2.2.2.1)) && am_in (.castable (am_exn h.2.2.2.1) (am_exn h.2.2.2.1)) && hs.all (fun z => decide (z.2.2.2.1 = h.2.2.2.1) || decide ((am_exn z.2.2.2.1, am_exn h.2.2.2.1) ∈ am_ncs)) && am_ckh own hs xs
  | _, _ => false
/-- the method's instructions and handlers -/
noncomputable def am_chb (k : Nat) : Bool := (am_code k).all (fun B => B.all (am_cki k)) && am_ckh (am_mq k).1.cls (am_hs k) (am_mq k).2.2.2.2.1
/-- its head, as a callee -/
noncomputable def am_chc (k : Nat) : Bool := am_hw (am_mq k).2.2.2.2.2.2.2.1 (am_cw k) && plainFor (am_mq k).1 && decide ((am_mq k).1.cls ≠ "java/lang/invoke/MethodHandle" ∧ (am_mq k).1.cls ≠ "java/lang/invoke/VarHandle") && am_hw (am_mx.getD k (0, 0)).2 (.initialized (am_mq k).1.cls) && decide (am_ml k ≤ 41) && decide (am_ml k = (am_mq k).2.2.1)
