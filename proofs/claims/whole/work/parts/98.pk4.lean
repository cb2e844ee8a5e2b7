def glen (L : List (Int × Int)) (j : Nat) : Int := (L[j]?.getD (0, 0)).2
theorem glen_at {L : List (Int × Int)} {j : Nat} (hj : j < L.length) : glen L j = (L[j]).2 := by
  unfold glen
  rw [List.getElem?_eq_getElem hj]
  rfl
theorem gi_pki (p r : Ob) (l : List Int) (L : List (Int × Int)) : gi (pkO p l) (rdO r L) = pd (PkI l (glen L) (fun j => j < L.length)) := by
  unfold gi
  have hc : pkO p l 0 2 = (l.length : Int) := rfl
  rw [hc, rdO_cnt, toNat_nat, toNat_nat]
  have hs := sel_list l (pkO p l 1) l.length (Nat.le_refl _) (fun i hi => by
    show l[i]? = some (match l[i]? with | some a => a | none => p 1 i)
    rw [List.getElem?_eq_getElem hi])
  rw [List.take_length] at hs
  have hl : ∀ j, j < L.length → rdO r L 2 j = glen L j := fun j hj => by rw [(rdO_at r (List.getElem?_eq_getElem hj)).2, glen_at hj]
  have : Packs (pkO p l 1) l.length (2 ^ l.length - 1) (rdO r L 2) L.length ↔ PkI l (glen L) (fun j => j < L.length) := by
    refine (packs_pks _ _ _ _ _).trans (pks_pki.trans ⟨fun h => ?_, fun h => ?_⟩)
    · exact PkI_cong (fun _ => Iff.rfl) hl (PkI_perm hs h)
    · exact PkI_cong (fun _ => Iff.rfl) (fun j hj => (hl j hj).symm) (PkI_perm hs.symm h)
  rw [propext this]
theorem LW.gaps2 {h : Ob} (hL : LW h) (r : Ob) (s : Int) {e : Int} (he1 : h 0 9 ≤ e) (he : e ≤ 200) : rk (rdO r (rnl h s e)) = true ∧ ∀ j, j < (rdO r (rnl h s e) 0 2).toNat → 0 ≤ rdO r (rnl h s e) 2 j ∧ rdO r (rnl h s e) 2 j ≤ 200 := by
  have h8 := hL.1
  have hlen := rnl_len hL (s := s) (e := e) he1 he
  have hM := hL.mr (s := s) (e := e) he1 he
  refine ⟨rk_iff.mpr (by rw [rdO_cnt]; omega), fun j hj => ?_⟩
  rw [rdO_cnt, toNat_nat] at hj
  have hq := List.getElem?_eq_getElem hj
  have := MR_mem hM _ (List.getElem_mem hj)
  rw [(rdO_at r hq).2]
  omega
theorem pk_h {h : Ob} (hL : LW h) (p : Ob) (w : Int) {n : Int} (h1 : 1 ≤ n) (h2 : n ≤ 200) : pkA (pkF p h w) n = pkO p (its h w ++ [n]) := by
  have := its_len h w
  rw [pkF_its hL, pkO_add p _ n (by omega) ⟨h1, h2⟩ (its_mem hL w)]
theorem gi_h {h h' : Ob} (hL : LW h) (hL' : LW h') (p r : Ob) (w s : Int) {n e : Int} (h1 : 1 ≤ n) (h2 : n ≤ 200) (he1 : h 0 9 ≤ e) (he : e ≤ 200) : gi (pkA (pkF p h' w) n) (rdO r (rnl h s e)) = pd (PkI (n :: its h' w) (glen (rnl h s e)) (fun j => j < (rnl h s e).length)) ∧ pd (GiG (pkA (pkF p h' w) n) (rdO r (rnl h s e))) = true := by
  have hg := hL.gaps2 r s he1 he
  have hil := its_len h' w
  rw [pk_h hL' p w h1 h2]
  refine ⟨?_, pd_t (GiG_pkO _ _ _ (by rw [List.length_append, List.length_singleton]; omega) (fun b hb => ?_) hg.1 hg.2)⟩
  · rw [gi_pki]
    have hp : (its h' w ++ [n]).Perm (n :: its h' w) := List.perm_append_singleton _ _
    have : PkI (its h' w ++ [n]) (glen (rnl h s e)) (fun j => j < (rnl h s e).length) ↔ PkI (n :: its h' w) (glen (rnl h s e)) (fun j => j < (rnl h s e).length) := ⟨PkI_perm hp, PkI_perm hp.symm⟩
    rw [propext this]
  · rcases List.mem_append.mp hb with hb | hb
    · exact its_mem hL' w b hb
    · rw [List.mem_singleton.mp hb]; omega
/-- the handles of the movable blocks, as they lie -/
noncomputable def Bh (h : Ob) : List Nat := (mvl h).map (fun k => (hol h k).toNat)
theorem Bh_at {h : Ob} (hL : LW h) {t i : Nat} (h1 : (Bh h)[t]? = some i) : ∃ ht : t < (mvl h).length, h 1 i = (mvl h)[t] ∧ i < 8 ∧ mov h (i : Int) = true := by
  unfold Bh at h1
  rw [List.getElem?_map] at h1
  obtain ⟨k, hk, e⟩ := Option.map_eq_some_iff.mp h1
  obtain ⟨ht, hk2⟩ := List.getElem?_eq_some_iff.mp hk
  obtain ⟨i', i1, i2, i3, i4⟩ := hL.mvl_mem (List.mem_of_getElem? hk)
  rw [i3, toNat_nat] at e
  subst e
  exact ⟨ht, by rw [i2, hk2], i1, i4⟩
theorem Bh_len (h : Ob) : (Bh h).length = (mvl h).length := by unfold Bh; rw [List.length_map]
theorem Bh_mem {h : Ob} (hL : LW h) (i : Nat) : i ∈ Bh h ↔ i < 8 ∧ mov h (i : Int) = true := by
  constructor
  · intro hi
    obtain ⟨t, ht⟩ := List.mem_iff_getElem?.mp hi
    obtain ⟨-, -, h1, h2⟩ := Bh_at hL ht
    exact ⟨h1, h2⟩
  · rintro ⟨h1, h2⟩
    refine List.mem_map.mpr ⟨h 1 i, hL.mvl_of (by omega) h2, ?_⟩
    rw [hL.hol_at (show i < 11 by omega) (mov_full hL h1 h2), toNat_nat]
theorem Bh_nodup {h : Ob} (hL : LW h) : (Bh h).Nodup := by
  unfold Bh
  refine List.pairwise_map.mpr (hL.mvl_sorted.imp_of_mem (fun {a b} ha hb hlt e => ?_))
  obtain ⟨i, i1, i2, i3, -⟩ := hL.mvl_mem ha
  obtain ⟨j, j1, j2, j3, -⟩ := hL.mvl_mem hb
  rw [i3, j3, toNat_nat, toNat_nat] at e
  subst e
  omega
theorem Bh_perm {h : Ob} (hL : LW h) : (Bh h).Perm ((List.range 8).filter (fun (i : Nat) => mov h (i : Int))) := by
  refine (List.perm_ext_iff_of_nodup (Bh_nodup hL) (List.nodup_range.filter _)).mpr (fun i => ?_)
  rw [Bh_mem hL, List.mem_filter, List.mem_range]
theorem GLB_of {h m : Ob} (hL : LW h) {L : List (Int × Int)} (hG : GLs h m L (mvl h)) : GLB m (Bh h) := by
  obtain ⟨g1, g2⟩ := hG
  have hl := hL.mvl_len
  refine ⟨by rw [Bh_len]; exact g1, by rw [Bh_len]; exact hl, fun t i ht => ?_⟩
  obtain ⟨ht', e1, e2, e3⟩ := Bh_at hL ht
  obtain ⟨i', g, i1, i2, i3, i4, -⟩ := g2 t ht'
  have a1 := hL.hol_at (show i < 11 by omega) (mov_full hL e2 e3)
  have a2 := hL.hol_at (show i' < 11 by omega) (mov_full hL i1 i3)
  rw [i2, ← e1, a1] at a2
  have : i = i' := by omega
  subst this
  exact ⟨i4, e2⟩
theorem lit_its {h : Ob} {q : Nat → Int} (hL : LW h) (hR : Rel h q) {s : Nat} {w : Int} (hw : ∀ i : Nat, i < 8 → inS w (i : Int) = (mov h (i : Int) && s.testBit i)) : (lit q (Bh h) s).Perm (its h w) := by
  unfold lit its
  have h1 := (((Bh_perm hL).filter (fun i => s.testBit i)).map (fun i => q (21 + i) + 1))
  refine h1.trans ?_
  rw [List.filter_filter]
  have e : (List.range 8).filter (fun i => s.testBit i && mov h (i : Int)) = (List.range 8).filter (fun (i : Nat) => inS w (i : Int)) := List.filter_congr (fun i hi => by
    rw [hw i (List.mem_range.mp hi), Bool.and_comm])
  rw [e]
  refine List.Perm.of_eq (List.map_congr_left (fun i hi => ?_))
  obtain ⟨i1, i2⟩ := List.mem_filter.mp hi
  have i1 := List.mem_range.mp i1
  rw [hw i i1, Bool.and_eq_true] at i2
  rw [(hR.use i1 (mov_full hL i1 i2.1)).2.2.2]
/-- most cells left in a gap of a heap of so many cells, gaps laid -/
theorem r_mostLeftH {T : Int} {h m : Ob} (hH : HI T h) (hR : Rel h (m 1)) {e : Int} (he1 : h 0 9 ≤ e) (he : e ≤ 200) (hG : GL m (rnl h (movS h) e)) (hGs : GLs h m (rnl h (movS h) e) (mvl h)) {s : Nat} (hs : s < 256) {w : Int} (hw : ∀ i : Nat, i < 8 → inS w (i : Int) = (mov h (i : Int) && s.testBit i)) :
    ∃ v m', ov_X8_mostLeft (s : Int) m = RI v [m'] ∧ -1 ≤ v ∧ v ≤ 200 ∧ (∀ n : Int, 0 ≤ n → (n ≤ v ↔ PkI (n :: its h w) (glen (rnl h (movS h) e)) (fun j => j < (rnl h (movS h) e).length))) ∧ ∀ j, j ≠ 9 → j ≠ 10 → j ≠ 11 → j ≠ 12 → m' j = m j := by
  have hL := hH.1
  have h8 := hL.1
  have hM := hL.mr (s := movS h) (e := e) he1 he
  obtain ⟨v, m', a1, a2, a3, a4, a5⟩ := r_mostLeft m hG (rnl_len hL he1 he) (fun q hq => by have := MR_mem hM q hq; omega) (GLB_of hL hGs) (fun i hi => by
    obtain ⟨i1, i2⟩ := (Bh_mem hL i).mp hi
    have hz := hL.2.2.2.1 i (by omega)
    rw [(hR.use i1 (mov_full hL i1 i2)).2.2.2]
    omega) hs
  refine ⟨v, m', a1, a2, a3, fun n hn => (a4 n hn).trans ?_, a5⟩
  have hp := (lit_its hL hR hw).cons n
  have hl : ∀ j, j < (rnl h (movS h) e).length → m 6 j = glen (rnl h (movS h) e) j := fun j hj => by rw [glen_at hj]; exact (hG.2 j hj).2
  exact ⟨fun z => PkI_cong (fun _ => Iff.rfl) hl (PkI_perm hp z), fun z => PkI_cong (fun _ => Iff.rfl) (fun j hj => (hl j hj).symm) (PkI_perm hp.symm z)⟩
theorem r_mostThen {T : Int} {h m : Ob} (hH : HI T h) (hR : Rel h (m 1)) {s : Nat} (hs : s < 256) {w : Int} (hw : ∀ i : Nat, i < 8 → inS w (i : Int) = (mov h (i : Int) && s.testBit i)) :
    ∃ v m', ov_X8_mostThen (s : Int) m = RI v [m'] ∧ -1 ≤ v ∧ v ≤ 200 ∧ (∀ n : Int, 0 ≤ n → (n ≤ v ↔ PkI (n :: its h w) (glen (rnl h (movS h) (h 0 10))) (fun j => j < (rnl h (movS h) (h 0 10)).length))) ∧ m' 1 = m 1 ∧ m' 2 = m 2 ∧ m' 3 = m 3 ∧ m' 0 3 = m 0 3 ∧ m' 0 4 = m 0 4 := by
  have hL := hH.1
  obtain ⟨z1, z2, z3, -⟩ := id hL
  obtain ⟨m1, a, b, c⟩ := fo_e hL hR
  have hR1 := own_frame hR b
  have e10 : m1 1 1 = h 0 10 := hR1.1.2.1
  obtain ⟨m2, g1, g2, g3, g4, g5⟩ := r_fillsGaps hH hR1 c (e := h 0 10) z2 z3
  have e21 : m2 1 = m1 1 := g4 1 (by decide) (by decide) (by decide) (by decide) (by decide)
  obtain ⟨v, m3, q1, q2, q3, q4, q5⟩ := r_mostLeftH hH (m := m2) (by rw [e21]; exact hR1) (e := h 0 10) z2 z3 g2 g3 hs hw
  refine ⟨v, m3, ?_, q2, q3, q4, ?_, ?_, ?_, ?_, ?_⟩
  · rw [ov_X8_mostThen_e]
    simp only [md_X8_mostThen_0, mg_X8_mostThen_0, a, oqV_t, oqO_V, if_true, e10, g1, q1, oqI_t, oqR_I, oqO_I]
  · rw [q5 1 (by decide) (by decide) (by decide) (by decide), e21, b 1 (by decide)]
  · rw [q5 2 (by decide) (by decide) (by decide) (by decide), g4 2 (by decide) (by decide) (by decide) (by decide) (by decide), b 2 (by decide)]
  · rw [q5 3 (by decide) (by decide) (by decide) (by decide), g4 3 (by decide) (by decide) (by decide) (by decide) (by decide), b 3 (by decide)]
  · rw [q5 0 (by decide) (by decide) (by decide) (by decide), g5 3 (by decide) (by decide), b 0 (by decide)]
  · rw [q5 0 (by decide) (by decide) (by decide) (by decide), g5 4 (by decide) (by decide), b 0 (by decide)]
