abbrev RI (r : Int) (μ : List Ob) : Option Rt := some (some (.inl r), μ)
abbrev RV (μ : List Ob) : Option Rt := some (none, μ)
abbrev RR (q : Nat × Nat) (μ : List Ob) : Option Rt := some (some (.inr (.inl q)), μ)
/-- a name that nothing unfolds by itself -/
noncomputable def xop {α : Type} (a : α) : α := Classical.choose (⟨a, rfl⟩ : ∃ b : α, b = a)
theorem xop_eq {α : Type} (a : α) : xop a = a := Classical.choose_spec (⟨a, rfl⟩ : ∃ b : α, b = a)
noncomputable def xfu : Nat := xop 1000000
theorem xfu_ge {n : Nat} (h : n ≤ 1000000) : n ≤ xfu := by unfold xfu; rw [xop_eq]; exact h
def bz (b : Bool) : Int := if b then 1 else 0
def xclr : List Nat → List (Option AV) → List (Option AV)
  | [], ls => ls
  | n :: ns, ls => xclr ns (put_ ls n none)
def o_cut (ns : List Nat) (k : XK) : XK := fun (ls, st, μ) => k (xclr ns ls, st, μ)
theorem xclr_nth : ∀ (ns : List Nat) (ls : List (Option AV)) (i : Nat) (v : AV), nth (xclr ns ls) i = some (some v) → nth ls i = some (some v)
  | [], ls, i, v, h => h
  | n :: ns, ls, i, v, h => by
    have h1 := xclr_nth ns (put_ ls n none) i v h
    rw [nth_put] at h1
    split at h1
    · rename_i e
      subst e
      cases hn : nth ls i with
      | none => rw [hn] at h1; cases h1
      | some z => rw [hn] at h1; cases h1
    · exact h1
theorem xclr_len : ∀ (ns : List Nat) (ls : List (Option AV)), (xclr ns ls).length = ls.length
  | [], ls => rfl
  | n :: ns, ls => by
    show (xclr ns (put_ ls n none)).length = _
    rw [xclr_len ns, put_len]
theorem s_cut {X : XDyn} {M : XM} {r0 : Rt} {pc : Nat} {k : XK} {ns : List Nat} (hk : XS X M r0 pc k) : XS X M r0 pc (o_cut ns k) := by
  obtain ⟨p, l, e, s, m, args, below, meth, c, D, g, ad, A⟩ := X
  obtain ⟨cc, nL, own, ret, sh, d⟩ := M
  intro ls st μ hμ h H locs lsl hl hP hS
  exact hk (xclr ns ls) st μ hμ h H locs lsl ⟨hl.1, hl.2.1, by rw [xclr_len]; exact hl.2.2.1, fun i v hv => hl.2.2.2 i v (xclr_nth ns ls i v hv)⟩ hP hS
abbrev shw_ : List (List PS) := []
abbrev shw_0_6_4 : List (List PS) := [[.inr (.inl (0, [some (1, 0), some (2, 0), some (0, 1), some (0, 2), some (0, 3), some (0, 4), some (0, 5), none])), .inl (0, 8), .inl (0, 8), .inl (0, 8), .inl (0, 8), .inl (0, 12)], [.inr (.inl (6, [some (1, 1), some (1, 2), none])), .inl (0, 12), .inl (0, 12)], [.inr (.inl (4, [some (2, 1), some (2, 2), none, none, none])), .inl (0, 11), .inl (0, 2048)]]
abbrev shw_0_6_4_3 : List (List PS) := [[.inr (.inl (0, [some (1, 0), some (2, 0), some (0, 1), some (0, 2), some (0, 3), some (0, 4), some (0, 5), none])), .inl (0, 8), .inl (0, 8), .inl (0, 8), .inl (0, 8), .inl (0, 12)], [.inr (.inl (6, [some (1, 1), some (1, 2), none])), .inl (0, 12), .inl (0, 12)], [.inr (.inl (4, [some (2, 1), some (2, 2), none, none, none])), .inl (0, 11), .inl (0, 2048)], [.inr (.inl (3, [some (3, 1), some (3, 2), some (3, 3), some (3, 4), some (3, 5), some (3, 6), some (3, 7), none, none, none, none, none, none, none])), .inl (0, 11), .inl (0, 11), .inl (0, 660), .inl (0, 8), .inl (0, 8), .inl (0, 8), .inl (0, 8)]]
abbrev shw_1_6 : List (List PS) := [[.inr (.inl (1, [some (1, 0), some (0, 1)])), .inl (0, 11)], [.inr (.inl (6, [some (1, 1), some (1, 2), none])), .inl (0, 12), .inl (0, 12)]]
abbrev shw_1_6_3 : List (List PS) := [[.inr (.inl (1, [some (1, 0), some (0, 1)])), .inl (0, 11)], [.inr (.inl (6, [some (1, 1), some (1, 2), none])), .inl (0, 12), .inl (0, 12)], [.inr (.inl (3, [some (2, 1), some (2, 2), some (2, 3), some (2, 4), some (2, 5), some (2, 6), some (2, 7), none, none, none, none, none, none, none])), .inl (0, 11), .inl (0, 11), .inl (0, 660), .inl (0, 8), .inl (0, 8), .inl (0, 8), .inl (0, 8)]]
abbrev shw_2_0_6_4 : List (List PS) := [[.inr (.inl (2, [some (1, 0), none, none, none]))], [.inr (.inl (0, [some (2, 0), some (3, 0), some (1, 1), some (1, 2), some (1, 3), some (1, 4), some (1, 5), none])), .inl (0, 8), .inl (0, 8), .inl (0, 8), .inl (0, 8), .inl (0, 12)], [.inr (.inl (6, [some (2, 1), some (2, 2), none])), .inl (0, 12), .inl (0, 12)], [.inr (.inl (4, [some (3, 1), some (3, 2), none, none, none])), .inl (0, 11), .inl (0, 2048)]]
abbrev shw_2_0_6_4_3 : List (List PS) := [[.inr (.inl (2, [some (1, 0), none, none, none]))], [.inr (.inl (0, [some (2, 0), some (3, 0), some (1, 1), some (1, 2), some (1, 3), some (1, 4), some (1, 5), none])), .inl (0, 8), .inl (0, 8), .inl (0, 8), .inl (0, 8), .inl (0, 12)], [.inr (.inl (6, [some (2, 1), some (2, 2), none])), .inl (0, 12), .inl (0, 12)], [.inr (.inl (4, [some (3, 1), some (3, 2), none, none, none])), .inl (0, 11), .inl (0, 2048)], [.inr (.inl (3, [some (4, 1), some (4, 2), some (4, 3), some (4, 4), some (4, 5), some (4, 6), some (4, 7), none, none, none, none, none, none, none])), .inl (0, 11), .inl (0, 11), .inl (0, 660), .inl (0, 8), .inl (0, 8), .inl (0, 8), .inl (0, 8)]]
abbrev shw_3 : List (List PS) := [[.inr (.inl (3, [some (0, 1), some (0, 2), some (0, 3), some (0, 4), some (0, 5), some (0, 6), some (0, 7), none, none, none, none, none, none, none])), .inl (0, 11), .inl (0, 11), .inl (0, 660), .inl (0, 8), .inl (0, 8), .inl (0, 8), .inl (0, 8)]]
abbrev shw_3_3 : List (List PS) := [[.inr (.inl (3, [some (0, 1), some (0, 2), some (0, 3), some (0, 4), some (0, 5), some (0, 6), some (0, 7), none, none, none, none, none, none, none])), .inl (0, 11), .inl (0, 11), .inl (0, 660), .inl (0, 8), .inl (0, 8), .inl (0, 8), .inl (0, 8)], [.inr (.inl (3, [some (1, 1), some (1, 2), some (1, 3), some (1, 4), some (1, 5), some (1, 6), some (1, 7), none, none, none, none, none, none, none])), .inl (0, 11), .inl (0, 11), .inl (0, 660), .inl (0, 8), .inl (0, 8), .inl (0, 8), .inl (0, 8)]]
abbrev shw_4 : List (List PS) := [[.inr (.inl (4, [some (0, 1), some (0, 2), none, none, none])), .inl (0, 11), .inl (0, 2048)]]
abbrev shw_4_3 : List (List PS) := [[.inr (.inl (4, [some (0, 1), some (0, 2), none, none, none])), .inl (0, 11), .inl (0, 2048)], [.inr (.inl (3, [some (1, 1), some (1, 2), some (1, 3), some (1, 4), some (1, 5), some (1, 6), some (1, 7), none, none, none, none, none, none, none])), .inl (0, 11), .inl (0, 11), .inl (0, 660), .inl (0, 8), .inl (0, 8), .inl (0, 8), .inl (0, 8)]]
abbrev shw_4_6 : List (List PS) := [[.inr (.inl (4, [some (0, 1), some (0, 2), none, none, none])), .inl (0, 11), .inl (0, 2048)], [.inr (.inl (6, [some (1, 1), some (1, 2), none])), .inl (0, 12), .inl (0, 12)]]
abbrev shw_4_6_3 : List (List PS) := [[.inr (.inl (4, [some (0, 1), some (0, 2), none, none, none])), .inl (0, 11), .inl (0, 2048)], [.inr (.inl (6, [some (1, 1), some (1, 2), none])), .inl (0, 12), .inl (0, 12)], [.inr (.inl (3, [some (2, 1), some (2, 2), some (2, 3), some (2, 4), some (2, 5), some (2, 6), some (2, 7), none, none, none, none, none, none, none])), .inl (0, 11), .inl (0, 11), .inl (0, 660), .inl (0, 8), .inl (0, 8), .inl (0, 8), .inl (0, 8)]]
abbrev shw_6 : List (List PS) := [[.inr (.inl (6, [some (0, 1), some (0, 2), none])), .inl (0, 12), .inl (0, 12)]]
abbrev shw_6_3 : List (List PS) := [[.inr (.inl (6, [some (0, 1), some (0, 2), none])), .inl (0, 12), .inl (0, 12)], [.inr (.inl (3, [some (1, 1), some (1, 2), some (1, 3), some (1, 4), some (1, 5), some (1, 6), some (1, 7), none, none, none, none, none, none, none])), .inl (0, 11), .inl (0, 11), .inl (0, 660), .inl (0, 8), .inl (0, 8), .inl (0, 8), .inl (0, 8)]]
abbrev shw_8 : List (List PS) := [[.inr (.inl (8, [some (0, 1), some (0, 2), some (0, 3), none, none, some (0, 4), some (0, 5), some (0, 6), none, some (0, 7), some (0, 8), none, some (0, 9), some (0, 10), some (0, 11), some (0, 12), some (0, 13), some (0, 14), some (0, 15), none, none, none, some (0, 16), none, none])), .inl (0, 735), .inl (0, 735), .inl (0, 8820), .inl (0, 200), .inl (0, 16), .inl (0, 16), .inl (0, 8), .inl (0, 8), .inl (0, 12), .inl (0, 4096), .inl (1, 4096), .inl (1, 4096), .inl (0, 8), .inl (0, 8), .inl (0, 16), .inl (0, 8)]]
abbrev shw_M : List (List PS) := [[.inr (.inl (7, [some (1, 0), some (2, 0), some (3, 0), some (17, 0), some (18, 0), some (19, 0), some (23, 0)]))], [.inr (.inl (3, [some (1, 1), some (1, 2), some (1, 3), some (1, 4), some (1, 5), some (1, 6), some (1, 7), none, none, none, none, none, none, none])), .inl (0, 11), .inl (0, 11), .inl (0, 660), .inl (0, 8), .inl (0, 8), .inl (0, 8), .inl (0, 8)], [.inr (.inl (3, [some (2, 1), some (2, 2), some (2, 3), some (2, 4), some (2, 5), some (2, 6), some (2, 7), none, none, none, none, none, none, none])), .inl (0, 11), .inl (0, 11), .inl (0, 660), .inl (0, 8), .inl (0, 8), .inl (0, 8), .inl (0, 8)], [.inr (.inl (5, [some (3, 1), none, none, none])), .inr (.inr [(4, 0), (5, 0), (6, 0), (7, 0), (8, 0), (9, 0), (10, 0), (11, 0), (12, 0), (13, 0), (14, 0), (15, 0), (16, 0)])], [.inr (.inl (3, [some (4, 1), some (4, 2), some (4, 3), some (4, 4), some (4, 5), some (4, 6), some (4, 7), none, none, none, none, none, none, none])), .inl (0, 11), .inl (0, 11), .inl (0, 660), .inl (0, 8), .inl (0, 8), .inl (0, 8), .inl (0, 8)], [.inr (.inl (3, [some (5, 1), some (5, 2), some (5, 3), some (5, 4), some (5, 5), some (5, 6), some (5, 7), none, none, none, none, none, none, none])), .inl (0, 11), .inl (0, 11), .inl (0, 660), .inl (0, 8), .inl (0, 8), .inl (0, 8), .inl (0, 8)], [.inr (.inl (3, [some (6, 1), some (6, 2), some (6, 3), some (6, 4), some (6, 5), some (6, 6), some (6, 7), none, none, none, none, none, none, none])), .inl (0, 11), .inl (0, 11), .inl (0, 660), .inl (0, 8), .inl (0, 8), .inl (0, 8), .inl (0, 8)], [.inr (.inl (3, [some (7, 1), some (7, 2), some (7, 3), some (7, 4), some (7, 5), some (7, 6), some (7, 7), none, none, none, none, none, none, none])), .inl (0, 11), .inl (0, 11), .inl (0, 660), .inl (0, 8), .inl (0, 8), .inl (0, 8), .inl (0, 8)], [.inr (.inl (3, [some (8, 1), some (8, 2), some (8, 3), some (8, 4), some (8, 5), some (8, 6), some (8, 7), none, none, none, none, none, none, none])), .inl (0, 11), .inl (0, 11), .inl (0, 660), .inl (0, 8), .inl (0, 8), .inl (0, 8), .inl (0, 8)], [.inr (.inl (3, [some (9, 1), some (9, 2), some (9, 3), some (9, 4), some (9, 5), some (9, 6), some (9, 7), none, none, none, none, none, none, none])), .inl (0, 11), .inl (0, 11), .inl (0, 660), .inl (0, 8), .inl (0, 8), .inl (0, 8), .inl (0, 8)], [.inr (.inl (3, [some (10, 1), some (10, 2), some (10, 3), some (10, 4), some (10, 5), some (10, 6), some (10, 7), none, none, none, none, none, none, none])), .inl (0, 11), .inl (0, 11), .inl (0, 660), .inl (0, 8), .inl (0, 8), .inl (0, 8), .inl (0, 8)], [.inr (.inl (3, [some (11, 1), some (11, 2), some (11, 3), some (11, 4), some (11, 5), some (11, 6), some (11, 7), none, none, none, none, none, none, none])), .inl (0, 11), .inl (0, 11), .inl (0, 660), .inl (0, 8), .inl (0, 8), .inl (0, 8), .inl (0, 8)], [.inr (.inl (3, [some (12, 1), some (12, 2), some (12, 3), some (12, 4), some (12, 5), some (12, 6), some (12, 7), none, none, none, none, none, none, none])), .inl (0, 11), .inl (0, 11), .inl (0, 660), .inl (0, 8), .inl (0, 8), .inl (0, 8), .inl (0, 8)], [.inr (.inl (3, [some (13, 1), some (13, 2), some (13, 3), some (13, 4), some (13, 5), some (13, 6), some (13, 7), none, none, none, none, none, none, none])), .inl (0, 11), .inl (0, 11), .inl (0, 660), .inl (0, 8), .inl (0, 8), .inl (0, 8), .inl (0, 8)], [.inr (.inl (3, [some (14, 1), some (14, 2), some (14, 3), some (14, 4), some (14, 5), some (14, 6), some (14, 7), none, none, none, none, none, none, none])), .inl (0, 11), .inl (0, 11), .inl (0, 660), .inl (0, 8), .inl (0, 8), .inl (0, 8), .inl (0, 8)], [.inr (.inl (3, [some (15, 1), some (15, 2), some (15, 3), some (15, 4), some (15, 5), some (15, 6), some (15, 7), none, none, none, none, none, none, none])), .inl (0, 11), .inl (0, 11), .inl (0, 660), .inl (0, 8), .inl (0, 8), .inl (0, 8), .inl (0, 8)], [.inr (.inl (3, [some (16, 1), some (16, 2), some (16, 3), some (16, 4), some (16, 5), some (16, 6), some (16, 7), none, none, none, none, none, none, none])), .inl (0, 11), .inl (0, 11), .inl (0, 660), .inl (0, 8), .inl (0, 8), .inl (0, 8), .inl (0, 8)], [.inr (.inl (6, [some (17, 1), some (17, 2), none])), .inl (0, 12), .inl (0, 12)], [.inr (.inl (4, [some (18, 1), some (18, 2), none, none, none])), .inl (0, 11), .inl (0, 2048)], [.inr (.inl (2, [some (20, 0), none, none, none]))], [.inr (.inl (0, [some (21, 0), some (22, 0), some (20, 1), some (20, 2), some (20, 3), some (20, 4), some (20, 5), none])), .inl (0, 8), .inl (0, 8), .inl (0, 8), .inl (0, 8), .inl (0, 12)], [.inr (.inl (6, [some (21, 1), some (21, 2), none])), .inl (0, 12), .inl (0, 12)], [.inr (.inl (4, [some (22, 1), some (22, 2), none, none, none])), .inl (0, 11), .inl (0, 2048)], [.inr (.inl (1, [some (24, 0), some (23, 1)])), .inl (0, 11)], [.inr (.inl (6, [some (24, 1), some (24, 2), none])), .inl (0, 12), .inl (0, 12)]]
abbrev shw_P : List (List PS) := [[.inr (.inl (5, [some (0, 1), none, none, none])), .inr (.inr [(1, 0), (2, 0), (3, 0), (4, 0), (5, 0), (6, 0), (7, 0), (8, 0), (9, 0), (10, 0), (11, 0), (12, 0), (13, 0)])], [.inr (.inl (3, [some (1, 1), some (1, 2), some (1, 3), some (1, 4), some (1, 5), some (1, 6), some (1, 7), none, none, none, none, none, none, none])), .inl (0, 11), .inl (0, 11), .inl (0, 660), .inl (0, 8), .inl (0, 8), .inl (0, 8), .inl (0, 8)], [.inr (.inl (3, [some (2, 1), some (2, 2), some (2, 3), some (2, 4), some (2, 5), some (2, 6), some (2, 7), none, none, none, none, none, none, none])), .inl (0, 11), .inl (0, 11), .inl (0, 660), .inl (0, 8), .inl (0, 8), .inl (0, 8), .inl (0, 8)], [.inr (.inl (3, [some (3, 1), some (3, 2), some (3, 3), some (3, 4), some (3, 5), some (3, 6), some (3, 7), none, none, none, none, none, none, none])), .inl (0, 11), .inl (0, 11), .inl (0, 660), .inl (0, 8), .inl (0, 8), .inl (0, 8), .inl (0, 8)], [.inr (.inl (3, [some (4, 1), some (4, 2), some (4, 3), some (4, 4), some (4, 5), some (4, 6), some (4, 7), none, none, none, none, none, none, none])), .inl (0, 11), .inl (0, 11), .inl (0, 660), .inl (0, 8), .inl (0, 8), .inl (0, 8), .inl (0, 8)], [.inr (.inl (3, [some (5, 1), some (5, 2), some (5, 3), some (5, 4), some (5, 5), some (5, 6), some (5, 7), none, none, none, none, none, none, none])), .inl (0, 11), .inl (0, 11), .inl (0, 660), .inl (0, 8), .inl (0, 8), .inl (0, 8), .inl (0, 8)], [.inr (.inl (3, [some (6, 1), some (6, 2), some (6, 3), some (6, 4), some (6, 5), some (6, 6), some (6, 7), none, none, none, none, none, none, none])), .inl (0, 11), .inl (0, 11), .inl (0, 660), .inl (0, 8), .inl (0, 8), .inl (0, 8), .inl (0, 8)], [.inr (.inl (3, [some (7, 1), some (7, 2), some (7, 3), some (7, 4), some (7, 5), some (7, 6), some (7, 7), none, none, none, none, none, none, none])), .inl (0, 11), .inl (0, 11), .inl (0, 660), .inl (0, 8), .inl (0, 8), .inl (0, 8), .inl (0, 8)], [.inr (.inl (3, [some (8, 1), some (8, 2), some (8, 3), some (8, 4), some (8, 5), some (8, 6), some (8, 7), none, none, none, none, none, none, none])), .inl (0, 11), .inl (0, 11), .inl (0, 660), .inl (0, 8), .inl (0, 8), .inl (0, 8), .inl (0, 8)], [.inr (.inl (3, [some (9, 1), some (9, 2), some (9, 3), some (9, 4), some (9, 5), some (9, 6), some (9, 7), none, none, none, none, none, none, none])), .inl (0, 11), .inl (0, 11), .inl (0, 660), .inl (0, 8), .inl (0, 8), .inl (0, 8), .inl (0, 8)], [.inr (.inl (3, [some (10, 1), some (10, 2), some (10, 3), some (10, 4), some (10, 5), some (10, 6), some (10, 7), none, none, none, none, none, none, none])), .inl (0, 11), .inl (0, 11), .inl (0, 660), .inl (0, 8), .inl (0, 8), .inl (0, 8), .inl (0, 8)], [.inr (.inl (3, [some (11, 1), some (11, 2), some (11, 3), some (11, 4), some (11, 5), some (11, 6), some (11, 7), none, none, none, none, none, none, none])), .inl (0, 11), .inl (0, 11), .inl (0, 660), .inl (0, 8), .inl (0, 8), .inl (0, 8), .inl (0, 8)], [.inr (.inl (3, [some (12, 1), some (12, 2), some (12, 3), some (12, 4), some (12, 5), some (12, 6), some (12, 7), none, none, none, none, none, none, none])), .inl (0, 11), .inl (0, 11), .inl (0, 660), .inl (0, 8), .inl (0, 8), .inl (0, 8), .inl (0, 8)], [.inr (.inl (3, [some (13, 1), some (13, 2), some (13, 3), some (13, 4), some (13, 5), some (13, 6), some (13, 7), none, none, none, none, none, none, none])), .inl (0, 11), .inl (0, 11), .inl (0, 660), .inl (0, 8), .inl (0, 8), .inl (0, 8), .inl (0, 8)]]
abbrev shw_PH : List (List PS) := [[.inr (.inl (5, [some (0, 1), none, none, none])), .inr (.inr [(1, 0), (2, 0), (3, 0), (4, 0), (5, 0), (6, 0), (7, 0), (8, 0), (9, 0), (10, 0), (11, 0), (12, 0), (13, 0)])], [.inr (.inl (3, [some (1, 1), some (1, 2), some (1, 3), some (1, 4), some (1, 5), some (1, 6), some (1, 7), none, none, none, none, none, none, none])), .inl (0, 11), .inl (0, 11), .inl (0, 660), .inl (0, 8), .inl (0, 8), .inl (0, 8), .inl (0, 8)], [.inr (.inl (3, [some (2, 1), some (2, 2), some (2, 3), some (2, 4), some (2, 5), some (2, 6), some (2, 7), none, none, none, none, none, none, none])), .inl (0, 11), .inl (0, 11), .inl (0, 660), .inl (0, 8), .inl (0, 8), .inl (0, 8), .inl (0, 8)], [.inr (.inl (3, [some (3, 1), some (3, 2), some (3, 3), some (3, 4), some (3, 5), some (3, 6), some (3, 7), none, none, none, none, none, none, none])), .inl (0, 11), .inl (0, 11), .inl (0, 660), .inl (0, 8), .inl (0, 8), .inl (0, 8), .inl (0, 8)], [.inr (.inl (3, [some (4, 1), some (4, 2), some (4, 3), some (4, 4), some (4, 5), some (4, 6), some (4, 7), none, none, none, none, none, none, none])), .inl (0, 11), .inl (0, 11), .inl (0, 660), .inl (0, 8), .inl (0, 8), .inl (0, 8), .inl (0, 8)], [.inr (.inl (3, [some (5, 1), some (5, 2), some (5, 3), some (5, 4), some (5, 5), some (5, 6), some (5, 7), none, none, none, none, none, none, none])), .inl (0, 11), .inl (0, 11), .inl (0, 660), .inl (0, 8), .inl (0, 8), .inl (0, 8), .inl (0, 8)], [.inr (.inl (3, [some (6, 1), some (6, 2), some (6, 3), some (6, 4), some (6, 5), some (6, 6), some (6, 7), none, none, none, none, none, none, none])), .inl (0, 11), .inl (0, 11), .inl (0, 660), .inl (0, 8), .inl (0, 8), .inl (0, 8), .inl (0, 8)], [.inr (.inl (3, [some (7, 1), some (7, 2), some (7, 3), some (7, 4), some (7, 5), some (7, 6), some (7, 7), none, none, none, none, none, none, none])), .inl (0, 11), .inl (0, 11), .inl (0, 660), .inl (0, 8), .inl (0, 8), .inl (0, 8), .inl (0, 8)], [.inr (.inl (3, [some (8, 1), some (8, 2), some (8, 3), some (8, 4), some (8, 5), some (8, 6), some (8, 7), none, none, none, none, none, none, none])), .inl (0, 11), .inl (0, 11), .inl (0, 660), .inl (0, 8), .inl (0, 8), .inl (0, 8), .inl (0, 8)], [.inr (.inl (3, [some (9, 1), some (9, 2), some (9, 3), some (9, 4), some (9, 5), some (9, 6), some (9, 7), none, none, none, none, none, none, none])), .inl (0, 11), .inl (0, 11), .inl (0, 660), .inl (0, 8), .inl (0, 8), .inl (0, 8), .inl (0, 8)], [.inr (.inl (3, [some (10, 1), some (10, 2), some (10, 3), some (10, 4), some (10, 5), some (10, 6), some (10, 7), none, none, none, none, none, none, none])), .inl (0, 11), .inl (0, 11), .inl (0, 660), .inl (0, 8), .inl (0, 8), .inl (0, 8), .inl (0, 8)], [.inr (.inl (3, [some (11, 1), some (11, 2), some (11, 3), some (11, 4), some (11, 5), some (11, 6), some (11, 7), none, none, none, none, none, none, none])), .inl (0, 11), .inl (0, 11), .inl (0, 660), .inl (0, 8), .inl (0, 8), .inl (0, 8), .inl (0, 8)], [.inr (.inl (3, [some (12, 1), some (12, 2), some (12, 3), some (12, 4), some (12, 5), some (12, 6), some (12, 7), none, none, none, none, none, none, none])), .inl (0, 11), .inl (0, 11), .inl (0, 660), .inl (0, 8), .inl (0, 8), .inl (0, 8), .inl (0, 8)], [.inr (.inl (3, [some (13, 1), some (13, 2), some (13, 3), some (13, 4), some (13, 5), some (13, 6), some (13, 7), none, none, none, none, none, none, none])), .inl (0, 11), .inl (0, 11), .inl (0, 660), .inl (0, 8), .inl (0, 8), .inl (0, 8), .inl (0, 8)], [.inr (.inl (3, [some (14, 1), some (14, 2), some (14, 3), some (14, 4), some (14, 5), some (14, 6), some (14, 7), none, none, none, none, none, none, none])), .inl (0, 11), .inl (0, 11), .inl (0, 660), .inl (0, 8), .inl (0, 8), .inl (0, 8), .inl (0, 8)]]
-- calls by a guard and a value
section XOps2
variable {X : XDyn} {M : XM} {r0 : Rt} {pc : Nat} {k : XK}
def o_callSg (n rk : Nat) (mp : List Nat) (G : List AV → List Ob → Bool) (V : List AV → List Ob → Rt) (k : XK) : XK := fun (ls, st, μ) =>
  match xrens mp (st.take n).reverse with
  | some as => if decide (n ≤ st.length) && decide (xcat (st.drop n) ≤ 8) then (if G as (xsub mp μ) then o_ans rk mp ls (st.drop n) μ k (V as (xsub mp μ)) else none) else none
  | none => none
def o_callVg (n rk : Nat) (mp : List Nat) (G : List AV → List Ob → Bool) (V : List AV → List Ob → Rt) (k : XK) : XK := fun (ls, st, μ) =>
  match xrens mp (st.take n).reverse with
  | some (.inr (.inl (0, 0)) :: as) => if decide (n ≤ st.length) && decide (xcat (st.drop n) ≤ 8) then (if G (.inr (.inl (0, 0)) :: as) (xsub mp μ) then o_ans rk mp ls (st.drop n) μ k (V (.inr (.inl (0, 0)) :: as) (xsub mp μ)) else none) else none
  | _ => none
abbrev xgv (G : List AV → List Ob → Bool) (V : List AV → List Ob → Rt) : List AV → List Ob → Option Rt := fun as μ => if G as μ then some (V as μ) else none
theorem xgv_bind {G : List AV → List Ob → Bool} {V : List AV → List Ob → Rt} {as : List AV} {μ : List Ob} {f : Rt → Option Rt} : (xgv G V as μ).bind f = if G as μ then f (V as μ) else none := by
  unfold xgv
  split <;> rfl
theorem o_callSg_eq {n rk : Nat} {mp : List Nat} {G : List AV → List Ob → Bool} {V : List AV → List Ob → Rt} {k : XK} : o_callSg n rk mp G V k = o_callS n rk mp (xgv G V) k := by
  funext q
  obtain ⟨ls, st, μ⟩ := q
  unfold o_callSg o_callS
  dsimp only
  simp only [xgv_bind]
  rfl
theorem o_callVg_eq {n rk : Nat} {mp : List Nat} {G : List AV → List Ob → Bool} {V : List AV → List Ob → Rt} {k : XK} : o_callVg n rk mp G V k = o_callV n rk mp (xgv G V) k := by
  funext q
  obtain ⟨ls, st, μ⟩ := q
  unfold o_callVg o_callV
  dsimp only
  simp only [xgv_bind]
  rfl
theorem s_callVg {y : MethodName} {Mc : XM} {G : List AV → List Ob → Bool} {V : List AV → List Ob → Rt} {n rk index ci N : Nat} {mp : List Nat} {Cn : String} {T : u_T} {fs : List (Option (Nat × Nat))} (C : XO X M) (hF : XCt y Mc (xgv G V)) (hfit : xfit mp M.2.2.2.2.1 Mc.2.2.2.2.1) (hc : classes[ci]? = some (Cn, T, N)) (h00 : part Mc.2.2.2.2.1 0 0 = some (.inr (.inl (ci, fs)))) (hdep : Mc.2.2.2.2.2 + 1 ≤ M.2.2.2.2.2) (hml : Mc.2.1 ≤ 45)
    (hy : y.cls = Cn ∧ y.cls ≠ "java/lang/invoke/MethodHandle" ∧ y.cls ≠ "java/lang/invoke/VarHandle" ∧ (parseMethodDescriptor y.desc).map (fun d => d.parameters.length) = some (n - 1)) (hn : 1 ≤ n)
    (h1 : Cond.methodLink M.2.2.1 index y ∈ BIG) (h2 : Cond.instanceMethod y ∈ BIG) (h3 : Cond.selects Cn y y ∈ BIG) (h4 : Cond.initialized Cn ∈ BIG) (h5 : Cond.code y Mc.1 Mc.2.1 Mc.2.2.2.1 ∈ BIG) (hd : decode M.1 pc = .ok (.invokevirtual index, 3)) (hk : XS X M r0 (pc + 3) k) : XS X M r0 pc (o_callVg n rk mp G V k) := by
  rw [o_callVg_eq]
  exact s_callV C hF hfit hc h00 hdep hml hy hn h1 h2 h3 h4 h5 hd hk
theorem s_callSg {y : MethodName} {Mc : XM} {G : List AV → List Ob → Bool} {V : List AV → List Ob → Rt} {n rk index : Nat} {mp : List Nat} (C : XO X M) (hF : XCt y Mc (xgv G V)) (hfit : xfit mp M.2.2.2.2.1 Mc.2.2.2.2.1) (hdep : Mc.2.2.2.2.2 + 1 ≤ M.2.2.2.2.2) (hml : Mc.2.1 ≤ 45)
    (hy : y.cls = M.2.2.1 ∧ y.cls ≠ "java/lang/invoke/MethodHandle" ∧ y.cls ≠ "java/lang/invoke/VarHandle" ∧ (parseMethodDescriptor y.desc).map (fun d => d.parameters.length) = some n)
    (h1 : Cond.methodLink M.2.2.1 index y ∈ BIG) (h2 : Cond.static y ∈ BIG) (h4 : Cond.initialized M.2.2.1 ∈ BIG) (h5 : Cond.code y Mc.1 Mc.2.1 Mc.2.2.2.1 ∈ BIG) (hd : decode M.1 pc = .ok (.invokestatic index, 3)) (hk : XS X M r0 (pc + 3) k) : XS X M r0 pc (o_callSg n rk mp G V k) := by
  rw [o_callSg_eq]
  exact s_callS C hF hfit hdep hml hy h1 h2 h4 h5 hd hk
end XOps2
-- loops
theorem tlp_succ {A : Type} {B : (A → Option Rt) → A → Option Rt} {n : Nat} {a : A} : tlp B (n + 1) a = B (tlp B n) a := rfl
theorem tlp_inv {A : Type} {B : (A → Option Rt) → A → Option Rt} (I : A → Prop) (ms : A → Nat) (S : A → Option Rt) (h : ∀ a, I a → (∃ a', (∀ k, B k a = k a') ∧ I a' ∧ ms a' < ms a ∧ S a = S a') ∨ (∀ k, B k a = S a)) : ∀ (f : Nat) (a : A), I a → ms a < f → tlp B f a = S a := by
  intro f
  induction f with
  | zero => intro a _ hf; omega
  | succ f ih =>
    intro a ha hf
    show B (tlp B f) a = S a
    rcases h a ha with ⟨a', h1, h2, h3, h4⟩ | h1
    · rw [h1, h4]
      exact ih a' h2 (by omega)
    · exact h1 _
theorem loop_fold {A S : Type} {B : (A → Option Rt) → A → Option Rt} (n : Nat) (g : S → Nat → S) (R : S → Option Rt) (enc : Nat → S → A) (I : Nat → S → Prop) (h1 : ∀ k i s, i < n → I i s → B k (enc i s) = k (enc (i + 1) (g s i)) ∧ I (i + 1) (g s i)) (h2 : ∀ k s, I n s → B k (enc n s) = R s) : ∀ (f : Nat) (s : S), n < f → I 0 s → tlp B f (enc 0 s) = R ((List.range n).foldl g s) ∧ I n ((List.range n).foldl g s) := by
  have key : ∀ (d i f : Nat) (s : S), i + d = n → d < f → I i s → tlp B f (enc i s) = R ((List.range' i d).foldl g s) ∧ I n ((List.range' i d).foldl g s) := by
    intro d
    induction d with
    | zero =>
      intro i f s hi hf hI
      cases f with
      | zero => omega
      | succ f =>
        have : i = n := by omega
        subst this
        exact ⟨h2 _ s hI, hI⟩
    | succ d ih =>
      intro i f s hi hf hI
      cases f with
      | zero => omega
      | succ f =>
        have := h1 (tlp B f) i s (by omega) hI
        show B (tlp B f) (enc i s) = _ ∧ _
        rw [this.1, List.range'_succ]
        exact ih (i + 1) f (g s i) (by omega) (by omega) this.2
  intro f s hf hI
  rw [List.range_eq_range']
  exact key n 0 f s (by omega) hf hI
/-- the least of the first n with p; none: -1 -/
def lfind (p : Nat → Bool) (n : Nat) : Int := match (List.range n).find? p with
  | some i => (i : Int)
  | none => -1
theorem loop_find {A : Type} {B : (A → Option Rt) → A → Option Rt} (n : Nat) (p : Nat → Bool) (R : Int → Option Rt) (enc : Nat → A) (h1 : ∀ k i, i < n → B k (enc i) = if p i then R (i : Int) else k (enc (i + 1))) (h2 : ∀ k, B k (enc n) = R (-1)) : ∀ (f : Nat), n < f → tlp B f (enc 0) = R (lfind p n) := by
  have key : ∀ (d i f : Nat), i + d = n → d < f → tlp B f (enc i) = R (match (List.range' i d).find? p with | some i => (i : Int) | none => -1) := by
    intro d
    induction d with
    | zero =>
      intro i f hi hf
      cases f with
      | zero => omega
      | succ f =>
        have : i = n := by omega
        subst this
        exact h2 _
    | succ d ih =>
      intro i f hi hf
      cases f with
      | zero => omega
      | succ f =>
        show B (tlp B f) (enc i) = _
        rw [h1 _ i (by omega), List.range'_succ, List.find?_cons]
        cases hp : p i with
        | true => rfl
        | false => exact ih (i + 1) f (by omega) (by omega)
  intro f hf
  unfold lfind
  rw [List.range_eq_range']
  exact key n 0 f (by omega) hf
theorem lfind_cases (p : Nat → Bool) (n : Nat) : (∃ i, i < n ∧ p i = true ∧ (∀ j, j < i → p j = false) ∧ lfind p n = (i : Int)) ∨ ((∀ i, i < n → p i = false) ∧ lfind p n = -1) := by
  unfold lfind
  cases h : (List.range n).find? p with
  | none =>
    right
    refine ⟨fun i hi => ?_, rfl⟩
    have := List.find?_eq_none.mp h i (List.mem_range.mpr hi)
    simpa using this
  | some i =>
    left
    rw [List.range_eq_range', List.find?_range'_eq_some] at h
    obtain ⟨h1, h2, h3⟩ := h
    refine ⟨i, ?_, h1, fun j hj => ?_, rfl⟩
    · have := List.mem_range'_1.mp h2; omega
    · have := h3 j (by omega) hj
      simpa using this
theorem xw_nat {n : Nat} (h : n < 2147483648) : xw (n : Int) = n := xw_id (by omega) (by omega)
theorem xin_nat {i n : Nat} (h : i < n) (hn : n ≤ 2147483648) : xin (i : Int) n = true := by
  unfold xin
  rw [xw_nat (by omega)]
  simp; omega
theorem toNat_nat (n : Nat) : ((n : Int)).toNat = n := Int.toNat_natCast n
theorem xw1 : xw 1 = 1 := by decide
theorem bz_t : bz true = 1 := rfl
theorem bz_f : bz false = 0 := rfl
theorem xb_bz (b : Bool) : xb (bz b) = true := by cases b <;> rfl
theorem bz_0 (b : Bool) : (xw (bz b) = 0) = (b = false) := by cases b <;> simp [bz, xw0, xw1]
theorem xwm1 : xw (-1) = -1 := by decide
noncomputable def pd (p : Prop) : Bool := xop (@decide p (Classical.propDecidable p))
theorem pd_t {p : Prop} (h : p) : pd p = true := by unfold pd; rw [xop_eq]; simp [h]
theorem pd_of {p : Prop} (h : pd p = true) : p := by unfold pd at h; rw [xop_eq] at h; simpa using h
