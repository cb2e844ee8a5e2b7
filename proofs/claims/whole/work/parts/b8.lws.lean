theorem wl_c7 : Cond.classLink R_law 7 RX7 ∈ lw_tbl := List.mem_of_getElem? (i := 85) (by decide +kernel)
theorem wl_c10 : Cond.classLink R_law 10 RX8 ∈ lw_tbl := List.mem_of_getElem? (i := 861) (by decide +kernel)
theorem wl_ao : Cond.arrayOver (.object RX3) ∈ lw_tbl := List.mem_of_getElem? (i := 174) (by decide +kernel)
theorem law_known {s : State} {b : Nat} (hts : ∀ w ∈ lw_tbl, w.before #[Value.ref b] s = true) : ∃ (D : va_G) (g : xG3), KS D g s := by
  have htB : ∀ w ∈ BIG, w.before #[Value.ref b] s = true := fun w hw => hts w (List.mem_filter.mp hw).1
  obtain ⟨c0, i0, n0⟩ := u_known (C := RX0) (T := TX0) (N := 8) (n := 8) htB inX0 (htB _ wc_243)
  obtain ⟨c1, i1, n1⟩ := u_known (C := RX1) (T := TX1) (N := 2) (n := 2) htB inX1 (htB _ wc_294)
  obtain ⟨c2, i2, n2⟩ := u_known (C := RX2) (T := TX2) (N := 4) (n := 4) htB inX2 (htB _ wc_237)
  obtain ⟨c3, i3, n3⟩ := u_known (C := RX3) (T := TX3) (N := 14) (n := 14) htB inX3 (htB _ wc_94)
  obtain ⟨c4, i4, n4⟩ := u_known (C := RX4) (T := TX4) (N := 5) (n := 5) htB inX4 (htB _ wc_215)
  obtain ⟨c5, i5, n5⟩ := u_known (C := RX5) (T := TX5) (N := 4) (n := 4) htB inX5 (htB _ wc_168)
  obtain ⟨c6, i6, n6⟩ := u_known (C := RX6) (T := TX6) (N := 3) (n := 3) htB inX6 (htB _ wc_192)
  obtain ⟨c7, i7, n7⟩ := u_known (C := RX7) (T := TX7) (N := 7) (n := 7) htB inX7 (htB _ wc_86)
  obtain ⟨c8, i8, n8⟩ := u_known (C := RX8) (T := TX8) (N := 25) (n := 25) htB inX8 (htB _ wc_862)
  obtain ⟨cI, kI, pI, fI, hI, jI⟩ := Cond.arrayClass_spec (htB _ wc_166)
  obtain ⟨cB, kB, pB, fB, hB, jB⟩ := Cond.arrayClass_spec (htB _ wc_947)
  obtain ⟨pR, cR, kR, fR, -, hR, jR, gR⟩ := Cond.arrayOver_spec (hts _ wl_ao)
  refine ⟨(fun k => match k with
    | 0 => c0
    | 1 => c1
    | 2 => c2
    | 3 => c3
    | 4 => c4
    | 5 => c5
    | 6 => c6
    | 7 => c7
    | _ => c8, fun k => match k with
    | 0 => i0
    | 1 => i1
    | 2 => i2
    | 3 => i3
    | 4 => i4
    | 5 => i5
    | 6 => i6
    | 7 => i7
    | _ => i8), (cI, cB, cR), ⟨fun k q hq => ?_, fun k q hq => ?_⟩, fun w hw => ?_⟩
  · match k, hq with
    | 0, hq => cases hq; exact n0
    | 1, hq => cases hq; exact n1
    | 2, hq => cases hq; exact n2
    | 3, hq => cases hq; exact n3
    | 4, hq => cases hq; exact n4
    | 5, hq => cases hq; exact n5
    | 6, hq => cases hq; exact n6
    | 7, hq => cases hq; exact n7
    | 8, hq => cases hq; exact n8
    | k + 9, hq => simp [classes] at hq
  · match k, hq with
    | 0, hq => cases hq; exact ⟨fun n z => ⟨fun k h => (by cases h), kI, hI, pI, jI⟩, fI⟩
    | 1, hq => cases hq; exact ⟨fun n z => ⟨fun k h => (by cases h), kB, hB, pB, jB⟩, fB⟩
    | 2, hq => cases hq; exact ⟨fun n z => ⟨fun k h => (by cases h), kR, hR, pR, jR⟩, kR, pR, hR, jR, fR, gR⟩
    | k + 3, hq => simp [xtys] at hq
  · have h1 := (List.mem_filter.mp hw).2
    have h2 := hts w (List.mem_filter.mp hw).1
    cases w <;> first | exact va_Nw.of rfl h2 | cases h1
set_option maxHeartbeats 4000000 in
set_option maxRecDepth 100000 in
/-- THE LAW, from its entry -/
theorem whole_start {p : Program} {e : Env} {s : State} {m : MethodId} {below : List Frame} {meth : Method} {c : Code} (l : Launch) (hflags : l.flags = flags0) {b L : Nat} {xs : Nat → Int32} (hL : L ≤ 2048) (C0 : lw_At p s m meth c b L xs) : W p l e room_1 s m #[Value.ref b] below meth c s.heap [] 0 0 (lw_Z below #[Value.ref b] s) (entryFrame m ([Value.ref b] : List Value).toArray 4) := by
  obtain ⟨hx, hb, hr, hml, hown, hts, hX, hbl, hlocks, hgv⟩ := id C0
  have htB : ∀ w ∈ BIG, w.before #[Value.ref b] s = true := fun w hw => hts w (List.mem_filter.mp hw).1
  obtain ⟨D, g, hKS⟩ := law_known hts
  have hAO : va_AO RX3 s := va_AO.of (hts _ wl_ao)
  have hA : ∀ q : Nat, s.heap.size ≤ q → (fun q : Nat => s.heap.size ≤ q) q := fun _ h => h
  have hS : va_S (fun q : Nat => s.heap.size ≤ q) s.heap s.heap [] := va_S.rf
  have hP : va_P D classes [] s.heap := fun k q h => by simp at h
  have hD : va_D (fun q : Nat => s.heap.size ≤ q) [] := ⟨fun i j p q h => by simp at h, fun k q h => by simp at h⟩
  have hl := lv_entry ([.ref b]) (n := 4) (Nat.le_of_ble_eq_true rfl)
  rw [lg_entry_eq]
  generalize (lg_sl ([.ref b]) ++ List.replicate (4 - (lg_sl ([.ref b])).length) Slot.unset).toArray = ls at hl ⊢
  have hl : lv_has ls 4 [(0, .ref b)] := hl
  refine va_new (ci := 7) (fs := [.null, .null, .null, .null, .null, .null, .null]) (C := RX7) (T := TX7) (N := 7) hx hb htB inX7 tyX7 tyX7_ok hown (hts _ wl_c7) (htB _ wc_86) (htB _ wd_73) hKS.1 hP hD hS hA rfl fsX7 (Nat.le_of_ble_eq_true rfl) (Nat.le_of_ble_eq_true rfl) dL_law_0 (fun q1 H1 hP1 hD1 hS1 => ?_)
  refine lv_dup hx hb dL_law_3 rfl ?_
  have hP1' : va_P D classes [(q1, .inr (7, [.null, .null, .null, .null, .null, .null, .null]))] H1 := hP1
  have hq1 : s.heap.size ≤ q1 := hD1.2 0 _ rfl
  refine ngo (nrun (rest := [.ref q1]) hx hb hml hown htB hKS hAO hl.1 nw_X7 hP1' (Or.inl (hts _ wl_87)) wd_73 wd_88 wd_89 rfl (by decide +kernel) (Nat.le_of_ble_eq_true rfl) (Nat.le_of_ble_eq_true rfl) (Nat.le_of_ble_eq_true rfl) dL_law_4 (Nat.le_of_ble_eq_true rfl) (Nat.le_of_ble_eq_true rfl)) hS1 hq1 hA (fun H2 locs2 ad1 a1 a2 a3 a4 a5 a6 hS2 => ?_)
  have hge1 : ∀ i j ps, part shw_M i j = some ps → s.heap.size ≤ ad1 i j := fun i j ps hps => by
    by_cases z : i = 0 ∧ j = 0
    · rw [z.1, z.2, a1]; exact hq1
    · exact Nat.le_trans hS1.1 (a4 i j ps hps z)
  refine lv_astore_n (lv' := [(1, .ref q1), (0, .ref b)]) hx hb dL_law_7 rfl hl (by decide) rfl (fun ls hl => ?_)
  have hPw : va_P D classes (xwl g ad1 shw_M muM) H2 := a2.wl
  have hDw : va_D (fun q : Nat => s.heap.size ≤ q) (xwl g ad1 shw_M muM) := a3.wl hge1
  refine va_new (ci := 8) (fs := [.null, .null, .null, .int 0, .int 0, .null, .null, .null, .int 0, .null, .null, .int 0, .null, .null, .null, .null, .null, .null, .null, .int 0, .int 0, .int 0, .null, .int 0, .int 0]) (C := RX8) (T := TX8) (N := 25) hx hb htB inX8 tyX8 tyX8_ok hown (hts _ wl_c10) (htB _ wc_862) (htB _ wd_81) hKS.1 hPw hDw hS2 hA rfl fsX8 (Nat.le_of_ble_eq_true rfl) (Nat.le_of_ble_eq_true rfl) dL_law_8 (fun q2 H3 hP3 hD3 hS3 => ?_)
  refine lv_dup hx hb dL_law_11 rfl ?_
  have hlast : (xwl g ad1 shw_M muM ++ [(q2, Sum.inr (8, [.null, .null, .null, .int 0, .int 0, .null, .null, .null, .int 0, .null, .null, .int 0, .null, .null, .null, .null, .null, .null, .null, .int 0, .int 0, .int 0, .null, .int 0, .int 0]))])[(xwl g ad1 shw_M muM).length]? = some (q2, Sum.inr (8, [.null, .null, .null, .int 0, .int 0, .null, .null, .null, .int 0, .null, .null, .int 0, .null, .null, .null, .null, .null, .null, .null, .int 0, .int 0, .int 0, .null, .int 0, .int 0])) := by rw [List.getElem?_append_right (Nat.le_refl _), Nat.sub_self]; rfl
  have hP3' : va_P D classes [(q2, .inr (8, [.null, .null, .null, .int 0, .int 0, .null, .null, .null, .int 0, .null, .null, .int 0, .null, .null, .null, .null, .null, .null, .null, .int 0, .int 0, .int 0, .null, .int 0, .int 0]))] H3 := fun k x hx => by
    cases k with
    | zero =>
      cases hx
      exact hP3 _ _ hlast
    | succ k => simp at hx
  have hq2 : s.heap.size ≤ q2 := hD3.2 _ _ hlast
  have hX3 : XP D g ad1 shw_M muM H3 := XP_of_wl hP3
  have hne : ∀ i j ps, part shw_M i j = some ps → ad1 i j < H3.size ∧ ad1 i j ≠ q2 := fun i j ps hps => by
    refine ⟨(hX3 i j ps hps).lt, fun z => ?_⟩
    obtain ⟨k, -, hk⟩ := xplace g ad1 muM hps
    have hkl := (List.getElem?_eq_some_iff.mp hk).1
    have h1 : (xwl g ad1 shw_M muM ++ [(q2, Sum.inr (8, [.null, .null, .null, .int 0, .int 0, .null, .null, .null, .int 0, .null, .null, .int 0, .null, .null, .null, .null, .null, .null, .null, .int 0, .int 0, .int 0, .null, .int 0, .int 0]))])[k]? = some (ad1 i j, xcell g ad1 (getO muM i j) ps) := by rw [List.getElem?_append_left hkl]; exact hk
    have := hD3.1 k _ _ _ h1 hlast z
    omega
  refine ngo (nrun (rest := [.ref q2]) hx hb hml hown htB hKS hAO hl.1 nw_X8 hP3' (Or.inl (hts _ wl_863)) wd_81 wd_864 wd_865 rfl (by decide +kernel) (Nat.le_of_ble_eq_true rfl) (Nat.le_of_ble_eq_true rfl) (Nat.le_of_ble_eq_true rfl) dL_law_12 (Nat.le_of_ble_eq_true rfl) (Nat.le_of_ble_eq_true rfl)) hS3 hq2 hA (fun H4 locs4 ad2 b1 b2 b3 b4 b5 b6 hS4 => ?_)
  have hor : ∀ i j ps, part shw_8 i j = some ps → ad2 i j = q2 ∨ H3.size ≤ ad2 i j := fun i j ps hps => by
    by_cases z : i = 0 ∧ j = 0
    · left; rw [z.1, z.2, b1]
    · exact Or.inr (b4 i j ps hps z)
  have hw : LWd D g ad1 ad2 s muM (bgM ob0 64 64) H4 locs4 := by
    refine ⟨fun i j ps hps => ?_, a3, b2, b3, hge1, fun i j ps hps => ?_, fun i j ps i' j' ps' hps hps' z => ?_, rfl, hS4⟩
    · obtain ⟨h1, h2⟩ := hne i j ps hps
      exact (hX3 i j ps hps).kept (b6 _ h1 h2)
    · rcases hor i j ps hps with z | z
      · rw [z]; exact hq2
      · exact Nat.le_trans hS3.1 z
    · obtain ⟨h1, h2⟩ := hne i j ps hps
      rcases hor i' j' ps' hps' with y | y
      · exact h2 (z.trans y)
      · omega
  refine lv_astore_n (lv' := [(2, .ref q2), (1, .ref q1), (0, .ref b)]) hx hb dL_law_15 rfl hl (by decide) rfl (fun ls hl => ?_)
  refine lv_iconst (v := xI 0) hx hb dL_law_16 rfl ?_
  refine lv_istore_n (lv' := [(3, .int (xI 0)), (2, .ref q2), (1, .ref q1), (0, .ref b)]) hx hb dL_law_17 rfl hl (by decide) rfl (fun ls hl => ?_)
  refine W.widen (k := 164) (n := 38125) (Nat.le_of_ble_eq_true rfl) (Nat.le_of_ble_eq_true rfl) ?_
  exact law_loop C0 hKS hL (Nat.le_of_ble_eq_true rfl) (Nat.le_of_ble_eq_true rfl) 512 0 (by omega) (by omega) muM (bgM ob0 64 64) H4 locs4 ls hw beg0 (by rw [a1, b1]; exact lv_sub hl [0, 3, 2, 1] rfl)
