/-! the law: its start, and its frame -/
section LW
variable {s : State} {args : Array Value}
theorem ci_0 : Cond.instantiable RX0 5 ∈ lw_tbl := List.mem_of_getElem? (i := 980) (by decide +kernel)
theorem ci_1 : Cond.instantiable RX1 5 ∈ lw_tbl := List.mem_of_getElem? (i := 78) (by decide +kernel)
theorem ci_2 : Cond.instantiable RX2 2 ∈ lw_tbl := List.mem_of_getElem? (i := 106) (by decide +kernel)
theorem ci_3 : Cond.instantiable RX3 8 ∈ lw_tbl := List.mem_of_getElem? (i := 699) (by decide +kernel)
theorem ci_4 : Cond.instantiable RX4 12 ∈ lw_tbl := List.mem_of_getElem? (i := 621) (by decide +kernel)
theorem ci_5 : Cond.instantiable RX5 3 ∈ lw_tbl := List.mem_of_getElem? (i := 534) (by decide +kernel)
theorem ci_6 : Cond.instantiable RX6 4 ∈ lw_tbl := List.mem_of_getElem? (i := 126) (by decide +kernel)
theorem ci_7 : Cond.instantiable RX7 18 ∈ lw_tbl := List.mem_of_getElem? (i := 70) (by decide +kernel)
theorem ci_8 : Cond.instantiable RX8 44 ∈ lw_tbl := List.mem_of_getElem? (i := 1054) (by decide +kernel)
theorem am_D0 (hts : ∀ w ∈ lw_tbl, w.before args s = true) : ∀ (ci : Nat) (q : vw_C), am_cls[ci]? = some q → ∃ (cC : ClassId) (iS : Nat → Nat), u_Kn s q.1 q.2.1 q.2.2 cC iS := by
  intro ci q h
  have hws : ∀ w ∈ am_ws, w.before args s = true := fun w hw => hts w (am_ws_in hw)
  match ci, h with
  | 0, h => cases h; exact u_known hws cw0 (hts _ ci_0)
  | 1, h => cases h; exact u_known hws cw1 (hts _ ci_1)
  | 2, h => cases h; exact u_known hws cw2 (hts _ ci_2)
  | 3, h => cases h; exact u_known hws cw3 (hts _ ci_3)
  | 4, h => cases h; exact u_known hws cw4 (hts _ ci_4)
  | 5, h => cases h; exact u_known hws cw5 (hts _ ci_5)
  | 6, h => cases h; exact u_known hws cw6 (hts _ ci_6)
  | 7, h => cases h; exact u_known hws cw7 (hts _ ci_7)
  | 8, h => cases h; exact u_known hws cw8 (hts _ ci_8)
  | k + 9, h => simp [am_cls] at h
theorem am_arrP {ty : FieldType} (hp : ∀ C, ty ≠ .object C) (h : (Cond.arrayClass ty).before args s = true) : ∃ cA : ClassId, ArrOfT s cA ty ∧ va_RA s cA ty := by
  obtain ⟨c, k, comp, h1, h2, h3⟩ := Cond.arrayClass_spec h
  refine ⟨c, fun n z => ⟨fun k h => (by cases h), k, h2, comp, h3⟩, ?_⟩
  cases ty with
  | object C => exact absurd rfl (hp C)
  | _ => exact h1
theorem am_arrO {C : String} (h : (Cond.arrayOver (.object C)).before args s = true) : ∃ cA : ClassId, ArrOfT s cA (.object C) ∧ va_RA s cA (.object C) := by
  obtain ⟨comp, c, k, h1, h2, h3, h4, h5⟩ := Cond.arrayOver_spec h
  exact ⟨c, fun n z => ⟨fun k h => (by cases h), k, h3, comp, h4⟩, k, comp, h3, h4, h1, h5⟩
theorem am_strs_ok : (am_strs.all fun q => decide (Cond.stringRef q.1 q.2.1 q.2.2 ∈ lw_tbl) && decide (Cond.exactly (.string q.1 q.2.1) "java/lang/String" ∈ flatC (Jvm.Cond.and given_1 narrow_1))) = true := by decide +kernel
theorem am_nests_ok : (am_nests.all fun q => decide (Cond.methodLinkNest q.1 q.2.1 q.2.2.1 q.2.2.2 ∈ lw_tbl)) = true := by decide +kernel
theorem am_ncs_ok : (am_ncs.all fun q => decide (Cond.not (.castable q.1 q.2) ∈ flatC (Jvm.Cond.and given_1 narrow_1))) = true := by decide +kernel
theorem am_K0 (hts : ∀ w ∈ lw_tbl, w.before args s = true) (hgv : (Jvm.Cond.and given_1 narrow_1).before args s = true) : ∃ (D : va_G) (cT : List (ClassId × FieldType)), am_K D cT s := by
  have hfl := flat_of_before _ hgv
  have hD : ∀ ci : Nat, ∃ (cC : ClassId) (iS : Nat → Nat), ∀ q, am_cls[ci]? = some q → u_Kn s q.1 q.2.1 q.2.2 cC iS := by
    intro ci
    cases h : am_cls[ci]? with
    | none => exact ⟨0, fun _ => 0, fun q hq => by cases hq⟩
    | some q =>
      obtain ⟨cC, iS, hu⟩ := am_D0 hts ci q h
      exact ⟨cC, iS, fun q' hq => by cases hq; exact hu⟩
  obtain ⟨c0, h0⟩ := am_arrP (ty := .int) (by intro C z; cases z) (hts _ (by decide +kernel))
  obtain ⟨c1, h1⟩ := am_arrP (ty := .long) (by intro C z; cases z) (hts _ (by decide +kernel))
  obtain ⟨c2, h2⟩ := am_arrP (ty := .boolean) (by intro C z; cases z) (hts _ (by decide +kernel))
  obtain ⟨c3, h3⟩ := am_arrP (ty := .double) (by intro C z; cases z) (hts _ (by decide +kernel))
  have a4 : (Cond.arrayOver (.object "RangingStation$Station")).before args s = true := hts _ (by decide +kernel)
  have a5 : (Cond.arrayOver (.object "RangingStation$Pass")).before args s = true := hts _ (by decide +kernel)
  have a6 : (Cond.arrayOver (.object "RangingStation$Observation")).before args s = true := hts _ (by decide +kernel)
  obtain ⟨c4, h4⟩ := am_arrO a4
  obtain ⟨c5, h5⟩ := am_arrO a5
  obtain ⟨c6, h6⟩ := am_arrO a6
  refine ⟨(fun ci => Classical.choose (hD ci), fun ci => Classical.choose (Classical.choose_spec (hD ci))), [(c0, .int), (c1, .long), (c2, .boolean), (c3, .double), (c4, .object "RangingStation$Station"), (c5, .object "RangingStation$Pass"), (c6, .object "RangingStation$Observation")],
    ⟨fun ci q h => Classical.choose_spec (Classical.choose_spec (hD ci)) q h, fun k q hk => ?_⟩, rfl, fun C hC => ?_, fun q hq => ?_, fun w hw => ?_, fun q hq => ?_, fun q hq => ?_⟩
  · match k, hk with
    | 0, hk => cases hk; exact h0
    | 1, hk => cases hk; exact h1
    | 2, hk => cases hk; exact h2
    | 3, hk => cases hk; exact h3
    | 4, hk => cases hk; exact h4
    | 5, hk => cases hk; exact h5
    | 6, hk => cases hk; exact h6
    | n + 7, hk => simp at hk
  · simp only [am_elts, List.mem_cons, List.not_mem_nil, or_false] at hC
    rcases hC with rfl | rfl | rfl
    · exact va_AO.of a4
    · exact va_AO.of a5
    · exact va_AO.of a6
  · have h := List.all_eq_true.mp am_strs_ok q hq
    simp only [Bool.and_eq_true, decide_eq_true_eq] at h
    obtain ⟨a, c, cell, k, q1, -⟩ := Cond.exactly_spec (hfl _ h.2)
    exact ⟨a, vk_R.of (hts _ h.1) q1⟩
  · have h2 := (List.mem_filter.mp hw).2
    simp only [Bool.and_eq_true] at h2
    exact va_Nw.of h2.1 (hts w (List.mem_filter.mp hw).1)
  · have h := List.all_eq_true.mp am_nests_ok q hq
    exact va_Nw.of rfl (hts _ (of_decide_eq_true h))
  · have h := List.all_eq_true.mp am_ncs_ok q hq
    exact va_Nc.of (hfl _ (of_decide_eq_true h))
theorem am_Z0 (hts : ∀ w ∈ lw_tbl, w.before args s = true) (hgv : (Jvm.Cond.and given_1 narrow_1).before args s = true) : am_Z (fun q => s.heap.size ≤ q) s s.heap := by
  have hfl := flat_of_before _ hgv
  exact ⟨vx_Zqof (args := args) (hts _ (by decide +kernel)) (hts _ (by decide +kernel)) (hfl _ (by decide +kernel)) (fun a h => Nat.not_le.mpr h), vx_Zqof (args := args) (hts _ (by decide +kernel)) (hts _ (by decide +kernel)) (hfl _ (by decide +kernel)) (fun a h => Nat.not_le.mpr h)⟩
theorem lq_cls : (am_mq 232).1.cls = R_law := by decide +kernel
theorem lq_nm : decide ((am_mq 232).1.name = "<init>") = false := by decide +kernel
theorem lq_cc : (am_mq 232).2.1 = code := by rfl
theorem lq_ml : (am_mq 232).2.2.1 = 9 := by decide +kernel
/-- the claim out of one run of the small machine -/
theorem am_whole {p : Program} {e : Env} {m : MethodId} {below : List Frame} {meth : Method} {c : Code} (hbb : ∀ k', k' < 233 → am_chb k' = true) (hcc : ∀ k', k' < 232 → am_chc k' = true) (l : Launch) (hflags : l.flags = flags0) {b L : Nat} {xs : Nat → Int32} (C0 : lw_At p s m meth c b L xs) {n d : Nat} {M' : am_M} (hd : d ≤ 15)
    (h : am_run n d (some (L, xs)) 232 0 [(0, .retAddr 0)] [] (0, 0, 0, fun _ => am_junk) = some (.inl (some (.int 1)), M')) (hMc : M'.2.1 ≤ room_1.cells) (hMs : M'.2.2.1 ≤ room_1.slots) :
    W p l e room_1 s m #[Value.ref b] below meth c s.heap [] 0 0 (lw_Z below #[Value.ref b] s) (entryFrame m ([Value.ref b] : List Value).toArray 9) := by
  obtain ⟨hx, hb, hr, hml, hown, hts, hX, hbl, hlk, hgv⟩ := C0
  obtain ⟨D, cT, hK⟩ := am_K0 hts hgv
  have hZ := am_Z0 hts hgv
  have hst : l.stackTraces = false := by unfold Launch.stackTraces; rw [hflags]; decide +kernel
  have C : am_Ck p l room_1 s m #[Value.ref b] meth c 232 D cT (fun q => s.heap.size ≤ q) :=
    ⟨hx, by rw [lq_cc]; exact hb, by rw [lq_ml]; exact hml, by rw [lq_cls]; exact hown, fun w hw => hts w (am_ws_in hw), hlk, hK, hZ, fun q hq => hq, fun z => absurd z (by rw [lq_nm]; decide), by decide, by decide, hst⟩
  have hXs : am_Xs (some (L, xs)) b (fun q => s.heap.size ≤ q) s := fun q hq => by
    cases hq
    exact ⟨hX, hbl, Nat.not_le.mpr hbl⟩
  have hW0 : am_Wd D cT b (fun q => s.heap.size ≤ q) (0, 0, 0, fun _ => am_junk) [] s.heap :=
    ⟨fun k q hk => by simp at hk, ⟨fun i j p q hi => by simp at hi, fun k q hk => by simp at hk⟩, rfl, fun a q hq => by simp at hq, fun a _ => rfl⟩
  rw [lg_entry_eq]
  refine W.base ?_
  have hck := hbb 232 (by decide)
  have key := am_frame (xs := some (L, xs)) (N := n) (L0 := []) (kc0 := 0) (ks0 := 0) (b := b) (A := fun q => s.heap.size ≤ q) (e := e) (below := below) (Q := lw_Z below #[Value.ref b] s) C hXs hck (Or.inl rfl) hcc (fun n _ => am_sound hst hbb hcc n) (.inl (some (.int 1)), M') ?_ ?_ ?_ hMc hMs n (Nat.le_refl _) d 0 [(0, .retAddr 0)] [] _ h
    (Nat.le_trans (show d + 6 ≤ 21 by omega) (by decide)) (Nat.le_trans (show 60 * d + 300 ≤ 10912 by omega) (by decide)) (Nat.le_refl _) (Nat.le_refl _) s.drawn
  · refine key _ [] s.heap [] (Drawn.sameBut.refl _ _) ⟨[(0, .ref b)], [], ?_, ⟨rfl, rfl, trivial⟩, trivial, hW0, va_S.rf, am_pre.refl _⟩
    rw [lq_ml]
    exact lv_entry [Value.ref b] (show (1 : Nat) ≤ 9 by decide)
  · intro pc la st M q v hq hs hr9 d0 ls sr H locs hd0 hP
    obtain ⟨lr, ws', hlv, hTR, hSR, hW, hSS, hpre⟩ := hP
    obtain ⟨hpc, hcki⟩ := am_at_ck hck hq
    simp only [am_cki, Bool.and_eq_true, decide_eq_true_eq] at hcki
    obtain ⟨⟨hdec, -⟩, -⟩ := hcki
    rw [hpc, lq_cc] at hdec
    cases hr9
    rcases ret_inv hs with ⟨hi, x, rfl, hok, hv⟩ | ⟨hi, x, rfl, hv⟩ | ⟨hi, x, rfl, hv⟩ | ⟨hi, x, rfl, hv⟩ | ⟨hi, rfl, hv⟩ | ⟨hi, rfl, hv⟩
    · cases hv
      rw [hi] at hdec
      obtain ⟨r', rfl, hr2⟩ := sr_i hSR
      cases r' with
      | cons a r' => exact hr2.elim
      | nil => exact va_forget (s := s.setDrawn d0) (fun z hz => hSS.2.2 z hz) (W.widen hMc hMs (lw_ret hd0 hx hb hr hlk hdec))
    · cases hv
    · cases hv
    · cases hv
    · cases hv
    · cases hv
  · intro pc la st M q E hq hs hr9
    cases hr9
  · intro E M hn hr9
    cases hr9
end LW
