def LWd (D : va_G) (g : xG3) (ad1 ad2 : Nat → Nat → Nat) (s : State) (μ : List Ob) (mm : Ob) (H : Heap) (locs : List Loc) : Prop :=
  XP D g ad1 shw_M μ H ∧ XI ad1 shw_M ∧ XP D g ad2 shw_8 [mm] H ∧ XI ad2 shw_8 ∧ (∀ i j ps, part shw_M i j = some ps → s.heap.size ≤ ad1 i j) ∧ (∀ i j ps, part shw_8 i j = some ps → s.heap.size ≤ ad2 i j) ∧ (∀ i j ps i' j' ps', part shw_M i j = some ps → part shw_8 i' j' = some ps' → ad1 i j ≠ ad2 i' j') ∧ μ.length = 25 ∧ va_S (fun q => s.heap.size ≤ q) s.heap H locs
section LawW
variable {p : Program} {l : Launch} {e : Env} {s : State} {m : MethodId} {below : List Frame} {meth : Method} {c : Code} {b L : Nat} {xs : Nat → Int32} {D : va_G} {g : xG3} {ad1 ad2 : Nat → Nat → Nat} {μ : List Ob} {mm : Ob} {H : Heap} {locs : List Loc} {cells slots : Nat} {Q : State → Prop} {pc : Nat} {ls : Array Slot}
theorem lawA {y : MethodName} {cc' : ByteArray} {nL' d' index : Nat} {own' : String} {ret' : Option FieldType} {F : List AV → List Ob → Option Rt} {as : List AV} {r : Int} {μ' : List Ob} {st0 : List Value}
    (C : lw_At p s m meth c b L xs) (hKS : KS D g s) (hw : LWd D g ad1 ad2 s μ mm H locs) (hlsz : ls.size = 4) (hcl : cells ≤ room_1.cells) (hsl : slots ≤ room_1.slots)
    (hF : XCt y (cc', nL', own', ret', shw_M, d') F) (hFr : F (.inr (.inl (0, 0)) :: as) μ = some (some (.inl r), μ')) (hμ' : μ'.length = 25) (hfr : d' + 1 ≤ room_1.frames) (hlo : 8 + (nL' + 11) + 64 * d' ≤ room_1.locals)
    (hy : y.cls = RX7 ∧ y.cls ≠ "java/lang/invoke/MethodHandle" ∧ y.cls ≠ "java/lang/invoke/VarHandle" ∧ (parseMethodDescriptor y.desc).map (fun d => d.parameters.length) = some as.length) (h1 : Cond.methodLink R_law index y ∈ lw_tbl) (hw1 : goodWord (Cond.methodLink R_law index y) = true) (h2 : Cond.instanceMethod y ∈ BIG) (h3 : Cond.selects RX7 y y ∈ BIG) (h4 : Cond.initialized RX7 ∈ BIG) (h5 : Cond.code y cc' nL' ret' ∈ BIG)
    (hst : st0 = (as.map (cv ad1)).reverse ++ [.ref (ad1 0 0)]) (hd : decode code pc = .ok (.invokevirtual index, 3))
    (kk : ∀ (H1 : Heap) (locs1 : List Loc), LWd D g ad1 ad2 s μ' mm H1 locs1 → W p l e room_1 s m #[Value.ref b] below meth c H1 locs1 cells slots Q (F0 m (pc + 3) ls [.int (xI r)])) :
    W p l e room_1 s m #[Value.ref b] below meth c H locs cells slots Q (F0 m pc ls st0) := by
  obtain ⟨hx, hb, hr, hml, hown, hts, hX, hbl, hlocks, hgv⟩ := C
  obtain ⟨w1, w2, w3, w4, w5, w6, w7, w8, w9⟩ := hw
  refine xcV (ci := 7) (Mc := (cc', nL', own', ret', shw_M, d')) (as := as) (rest := []) (A := fun q => s.heap.size ≤ q) hx hb hml hown (fun w hw => hts w (List.mem_filter.mp hw).1) hKS hlsz hF hFr rfl rfl w1 w2 w8 w9 (fun q hq => ?_) hfr hlo hy (hts _ h1) hw1 h2 h3 h4 h5 hst (Nat.le_of_ble_eq_true rfl) hd hcl hsl (fun H1 locs1 hP1 hz hk hS1 => ?_)
  · rcases hq with ⟨i, j, ps, hps, rfl⟩ | hq
    · exact w5 i j ps hps
    · exact Nat.le_trans w9.1 hq
  · refine kk H1 locs1 ⟨hP1, w2, fun i j ps hps => ?_, w4, w5, w6, w7, hμ', hS1⟩
    have h0 := w3 i j ps hps
    refine h0.kept (hk _ h0.lt ?_)
    rintro (⟨i', j', ps', hps', he⟩ | h)
    · exact w7 i' j' ps' i j ps hps' hps he.symm
    · have := h0.lt
      dsimp only at this h
      omega
theorem lawB {y : MethodName} {cc' : ByteArray} {nL' d' index : Nat} {own' : String} {ret' : Option FieldType} {F : List AV → List Ob → Option Rt} {as : List AV} {r : Int} {m' : Ob} {v0 : Value} {st0 : List Value}
    (C : lw_At p s m meth c b L xs) (hKS : KS D g s) (hw : LWd D g ad1 ad2 s μ mm H locs) (hlsz : ls.size = 4) (hcl : cells ≤ room_1.cells) (hsl : slots ≤ room_1.slots)
    (hF : XCt y (cc', nL', own', ret', shw_8, d') F) (hFr : F (.inr (.inl (0, 0)) :: as) [mm] = some (some (.inl r), [m'])) (hfr : d' + 1 ≤ room_1.frames) (hlo : 8 + (nL' + 11) + 64 * d' ≤ room_1.locals)
    (hy : y.cls = RX8 ∧ y.cls ≠ "java/lang/invoke/MethodHandle" ∧ y.cls ≠ "java/lang/invoke/VarHandle" ∧ (parseMethodDescriptor y.desc).map (fun d => d.parameters.length) = some as.length) (h1 : Cond.methodLink R_law index y ∈ lw_tbl) (hw1 : goodWord (Cond.methodLink R_law index y) = true) (h2 : Cond.instanceMethod y ∈ BIG) (h3 : Cond.selects RX8 y y ∈ BIG) (h4 : Cond.initialized RX8 ∈ BIG) (h5 : Cond.code y cc' nL' ret' ∈ BIG)
    (hv0 : v0.category = 1) (hst : st0 = (as.map (cv ad2)).reverse ++ [.ref (ad2 0 0), v0]) (hd : decode code pc = .ok (.invokevirtual index, 3))
    (kk : ∀ (H1 : Heap) (locs1 : List Loc), LWd D g ad1 ad2 s μ m' H1 locs1 → W p l e room_1 s m #[Value.ref b] below meth c H1 locs1 cells slots Q (F0 m (pc + 3) ls [.int (xI r), v0])) :
    W p l e room_1 s m #[Value.ref b] below meth c H locs cells slots Q (F0 m pc ls st0) := by
  obtain ⟨hx, hb, hr, hml, hown, hts, hX, hbl, hlocks, hgv⟩ := C
  obtain ⟨w1, w2, w3, w4, w5, w6, w7, w8, w9⟩ := hw
  refine xcV (ci := 8) (Mc := (cc', nL', own', ret', shw_8, d')) (as := as) (rest := [v0]) (A := fun q => s.heap.size ≤ q) hx hb hml hown (fun w hw => hts w (List.mem_filter.mp hw).1) hKS hlsz hF hFr rfl rfl w3 w4 rfl w9 (fun q hq => ?_) hfr hlo hy (hts _ h1) hw1 h2 h3 h4 h5 hst (by simp [hv0]) hd hcl hsl (fun H1 locs1 hP1 hz hk hS1 => ?_)
  · rcases hq with ⟨i, j, ps, hps, rfl⟩ | hq
    · exact w6 i j ps hps
    · exact Nat.le_trans w9.1 hq
  · refine kk H1 locs1 ⟨fun i j ps hps => ?_, w2, hP1, w4, w5, w6, w7, w8, hS1⟩
    have h0 := w1 i j ps hps
    refine h0.kept (hk _ h0.lt ?_)
    rintro (⟨i', j', ps', hps', he⟩ | h)
    · exact w7 i j ps i' j' ps' hps hps' he
    · have := h0.lt
      dsimp only at this h
      omega
end LawW
theorem IW_cases {T : Int} {μ : List Ob} {m : Ob} (h : IW T μ m) : ∃ (h0 h1 h2 h3 h4 h5 h6 h7 h8 h9 h10 h11 h12 h13 h14 h15 h16 h17 h18 h19 h20 h21 h22 h23 h24 : Ob), μ = [h0, h1, h2, h3, h4, h5, h6, h7, h8, h9, h10, h11, h12, h13, h14, h15, h16, h17, h18, h19, h20, h21, h22, h23, h24] ∧ INV T h1 h3 [h4, h5, h6, h7, h8, h9, h10, h11, h12, h13, h14, h15, h16] m := by
  unfold IW at h
  split at h
  · exact ⟨_, _, _, _, _, _, _, _, _, _, _, _, _, _, _, _, _, _, _, _, _, _, _, _, _, rfl, h⟩
  · exact h.elim
theorem IW_len {T : Int} {μ : List Ob} {m : Ob} (h : IW T μ m) : μ.length = 25 := by
  obtain ⟨h0, h1, h2, h3, h4, h5, h6, h7, h8, h9, h10, h11, h12, h13, h14, h15, h16, h17, h18, h19, h20, h21, h22, h23, h24, rfl, -⟩ := IW_cases h
  rfl
theorem lw_in {L : Nat} {i : Nat} (k : Nat) (h : i + k < L) (hL : L ≤ 2048) : vp_in (xI (i : Int) + xI (k : Int)) L := by
  rw [xI_add]
  have e : xw ((i : Int) + (k : Int)) = ((i + k : Nat) : Int) := by rw [xw_id (by omega) (by omega)]; omega
  exact xin_in (xin_of (by rw [e]; omega) (by rw [e]; omega))
theorem wl_87 : Cond.methodLink R_law 9 yX7_init ∈ lw_tbl := List.mem_of_getElem? (i := 87) (by decide +kernel)
theorem wl_334 : Cond.methodLink R_law 13 yX7_start ∈ lw_tbl := List.mem_of_getElem? (i := 334) (by decide +kernel)
theorem wl_342 : Cond.methodLink R_law 18 yX7_make ∈ lw_tbl := List.mem_of_getElem? (i := 342) (by decide +kernel)
theorem wl_551 : Cond.methodLink R_law 23 yX7_put ∈ lw_tbl := List.mem_of_getElem? (i := 551) (by decide +kernel)
theorem wl_576 : Cond.methodLink R_law 28 yX7_set ∈ lw_tbl := List.mem_of_getElem? (i := 576) (by decide +kernel)
theorem wl_584 : Cond.methodLink R_law 32 yX7_touch ∈ lw_tbl := List.mem_of_getElem? (i := 584) (by decide +kernel)
theorem wl_589 : Cond.methodLink R_law 37 yX7_lock ∈ lw_tbl := List.mem_of_getElem? (i := 589) (by decide +kernel)
theorem wl_593 : Cond.methodLink R_law 42 yX7_unlock ∈ lw_tbl := List.mem_of_getElem? (i := 593) (by decide +kernel)
theorem wl_597 : Cond.methodLink R_law 46 yX7_high ∈ lw_tbl := List.mem_of_getElem? (i := 597) (by decide +kernel)
theorem wl_610 : Cond.methodLink R_law 50 yX7_mark ∈ lw_tbl := List.mem_of_getElem? (i := 610) (by decide +kernel)
theorem wl_618 : Cond.methodLink R_law 55 yX7_drop ∈ lw_tbl := List.mem_of_getElem? (i := 618) (by decide +kernel)
theorem wl_622 : Cond.methodLink R_law 59 yX7_least ∈ lw_tbl := List.mem_of_getElem? (i := 622) (by decide +kernel)
theorem wl_626 : Cond.methodLink R_law 63 yX7_purge ∈ lw_tbl := List.mem_of_getElem? (i := 626) (by decide +kernel)
theorem wl_630 : Cond.methodLink R_law 67 yX7_remake ∈ lw_tbl := List.mem_of_getElem? (i := 630) (by decide +kernel)
theorem wl_639 : Cond.methodLink R_law 71 yX7_resize ∈ lw_tbl := List.mem_of_getElem? (i := 639) (by decide +kernel)
theorem wl_653 : Cond.methodLink R_law 75 yX7_fix ∈ lw_tbl := List.mem_of_getElem? (i := 653) (by decide +kernel)
theorem wl_684 : Cond.methodLink R_law 79 yX7_unfix ∈ lw_tbl := List.mem_of_getElem? (i := 684) (by decide +kernel)
theorem wl_688 : Cond.methodLink R_law 83 yX7_reserve ∈ lw_tbl := List.mem_of_getElem? (i := 688) (by decide +kernel)
theorem wl_692 : Cond.methodLink R_law 87 yX7_compact ∈ lw_tbl := List.mem_of_getElem? (i := 692) (by decide +kernel)
theorem wl_706 : Cond.methodLink R_law 92 yX7_policy ∈ lw_tbl := List.mem_of_getElem? (i := 706) (by decide +kernel)
theorem wl_710 : Cond.methodLink R_law 96 yX7_undo ∈ lw_tbl := List.mem_of_getElem? (i := 710) (by decide +kernel)
theorem wl_719 : Cond.methodLink R_law 100 yX7_handle ∈ lw_tbl := List.mem_of_getElem? (i := 719) (by decide +kernel)
theorem wl_724 : Cond.methodLink R_law 104 yX7_get ∈ lw_tbl := List.mem_of_getElem? (i := 724) (by decide +kernel)
theorem wl_728 : Cond.methodLink R_law 108 yX7_pointer ∈ lw_tbl := List.mem_of_getElem? (i := 728) (by decide +kernel)
theorem wl_732 : Cond.methodLink R_law 112 yX7_cell ∈ lw_tbl := List.mem_of_getElem? (i := 732) (by decide +kernel)
theorem wl_748 : Cond.methodLink R_law 116 yX7_block ∈ lw_tbl := List.mem_of_getElem? (i := 748) (by decide +kernel)
theorem wl_759 : Cond.methodLink R_law 120 yX7_free ∈ lw_tbl := List.mem_of_getElem? (i := 759) (by decide +kernel)
theorem wl_767 : Cond.methodLink R_law 145 yX7_after ∈ lw_tbl := List.mem_of_getElem? (i := 767) (by decide +kernel)
theorem wl_776 : Cond.methodLink R_law 149 yX7_order ∈ lw_tbl := List.mem_of_getElem? (i := 776) (by decide +kernel)
theorem wl_782 : Cond.methodLink R_law 153 yX7_torn ∈ lw_tbl := List.mem_of_getElem? (i := 782) (by decide +kernel)
theorem wl_795 : Cond.methodLink R_law 157 yX7_count ∈ lw_tbl := List.mem_of_getElem? (i := 795) (by decide +kernel)
theorem wl_803 : Cond.methodLink R_law 124 yX7_would ∈ lw_tbl := List.mem_of_getElem? (i := 803) (by decide +kernel)
theorem wl_811 : Cond.methodLink R_law 128 yX7_greatest ∈ lw_tbl := List.mem_of_getElem? (i := 811) (by decide +kernel)
theorem wl_825 : Cond.methodLink R_law 132 yX7_fewest ∈ lw_tbl := List.mem_of_getElem? (i := 825) (by decide +kernel)
theorem wl_835 : Cond.methodLink R_law 136 yX7_three ∈ lw_tbl := List.mem_of_getElem? (i := 835) (by decide +kernel)
theorem wl_849 : Cond.methodLink R_law 141 yX7_cheapest ∈ lw_tbl := List.mem_of_getElem? (i := 849) (by decide +kernel)
theorem wl_863 : Cond.methodLink R_law 12 yX8_init ∈ lw_tbl := List.mem_of_getElem? (i := 863) (by decide +kernel)
theorem wl_948 : Cond.methodLink R_law 17 yX8_start ∈ lw_tbl := List.mem_of_getElem? (i := 948) (by decide +kernel)
theorem wl_957 : Cond.methodLink R_law 99 yX8_undo ∈ lw_tbl := List.mem_of_getElem? (i := 957) (by decide +kernel)
theorem wl_961 : Cond.methodLink R_law 22 yX8_make ∈ lw_tbl := List.mem_of_getElem? (i := 961) (by decide +kernel)
theorem wl_1121 : Cond.methodLink R_law 27 yX8_put ∈ lw_tbl := List.mem_of_getElem? (i := 1121) (by decide +kernel)
theorem wl_1125 : Cond.methodLink R_law 31 yX8_set ∈ lw_tbl := List.mem_of_getElem? (i := 1125) (by decide +kernel)
theorem wl_1129 : Cond.methodLink R_law 36 yX8_touch ∈ lw_tbl := List.mem_of_getElem? (i := 1129) (by decide +kernel)
theorem wl_1137 : Cond.methodLink R_law 41 yX8_lock ∈ lw_tbl := List.mem_of_getElem? (i := 1137) (by decide +kernel)
theorem wl_1141 : Cond.methodLink R_law 45 yX8_unlock ∈ lw_tbl := List.mem_of_getElem? (i := 1141) (by decide +kernel)
theorem wl_1145 : Cond.methodLink R_law 49 yX8_high ∈ lw_tbl := List.mem_of_getElem? (i := 1145) (by decide +kernel)
theorem wl_1153 : Cond.methodLink R_law 54 yX8_mark ∈ lw_tbl := List.mem_of_getElem? (i := 1153) (by decide +kernel)
theorem wl_1157 : Cond.methodLink R_law 58 yX8_drop ∈ lw_tbl := List.mem_of_getElem? (i := 1157) (by decide +kernel)
theorem wl_1161 : Cond.methodLink R_law 62 yX8_least ∈ lw_tbl := List.mem_of_getElem? (i := 1161) (by decide +kernel)
theorem wl_1165 : Cond.methodLink R_law 66 yX8_purge ∈ lw_tbl := List.mem_of_getElem? (i := 1165) (by decide +kernel)
theorem wl_1169 : Cond.methodLink R_law 70 yX8_remake ∈ lw_tbl := List.mem_of_getElem? (i := 1169) (by decide +kernel)
theorem wl_1173 : Cond.methodLink R_law 74 yX8_resize ∈ lw_tbl := List.mem_of_getElem? (i := 1173) (by decide +kernel)
theorem wl_1181 : Cond.methodLink R_law 78 yX8_fix ∈ lw_tbl := List.mem_of_getElem? (i := 1181) (by decide +kernel)
theorem wl_1201 : Cond.methodLink R_law 82 yX8_unfix ∈ lw_tbl := List.mem_of_getElem? (i := 1201) (by decide +kernel)
theorem wl_1205 : Cond.methodLink R_law 86 yX8_reserve ∈ lw_tbl := List.mem_of_getElem? (i := 1205) (by decide +kernel)
theorem wl_1209 : Cond.methodLink R_law 91 yX8_compact ∈ lw_tbl := List.mem_of_getElem? (i := 1209) (by decide +kernel)
theorem wl_1221 : Cond.methodLink R_law 95 yX8_policy ∈ lw_tbl := List.mem_of_getElem? (i := 1221) (by decide +kernel)
theorem wl_1226 : Cond.methodLink R_law 103 yX8_handle ∈ lw_tbl := List.mem_of_getElem? (i := 1226) (by decide +kernel)
theorem wl_1230 : Cond.methodLink R_law 107 yX8_get ∈ lw_tbl := List.mem_of_getElem? (i := 1230) (by decide +kernel)
theorem wl_1234 : Cond.methodLink R_law 111 yX8_pointer ∈ lw_tbl := List.mem_of_getElem? (i := 1234) (by decide +kernel)
theorem wl_1238 : Cond.methodLink R_law 115 yX8_cell ∈ lw_tbl := List.mem_of_getElem? (i := 1238) (by decide +kernel)
theorem wl_1246 : Cond.methodLink R_law 119 yX8_block ∈ lw_tbl := List.mem_of_getElem? (i := 1246) (by decide +kernel)
theorem wl_1251 : Cond.methodLink R_law 123 yX8_free ∈ lw_tbl := List.mem_of_getElem? (i := 1251) (by decide +kernel)
theorem wl_1256 : Cond.methodLink R_law 127 yX8_would ∈ lw_tbl := List.mem_of_getElem? (i := 1256) (by decide +kernel)
theorem wl_1261 : Cond.methodLink R_law 131 yX8_greatest ∈ lw_tbl := List.mem_of_getElem? (i := 1261) (by decide +kernel)
theorem wl_1269 : Cond.methodLink R_law 135 yX8_fewest ∈ lw_tbl := List.mem_of_getElem? (i := 1269) (by decide +kernel)
theorem wl_1276 : Cond.methodLink R_law 140 yX8_three ∈ lw_tbl := List.mem_of_getElem? (i := 1276) (by decide +kernel)
theorem wl_1284 : Cond.methodLink R_law 144 yX8_cheapest ∈ lw_tbl := List.mem_of_getElem? (i := 1284) (by decide +kernel)
theorem wl_1296 : Cond.methodLink R_law 148 yX8_after ∈ lw_tbl := List.mem_of_getElem? (i := 1296) (by decide +kernel)
theorem wl_1300 : Cond.methodLink R_law 152 yX8_order ∈ lw_tbl := List.mem_of_getElem? (i := 1300) (by decide +kernel)
theorem wl_1304 : Cond.methodLink R_law 156 yX8_torn ∈ lw_tbl := List.mem_of_getElem? (i := 1304) (by decide +kernel)
theorem wl_1312 : Cond.methodLink R_law 160 yX8_count ∈ lw_tbl := List.mem_of_getElem? (i := 1312) (by decide +kernel)
