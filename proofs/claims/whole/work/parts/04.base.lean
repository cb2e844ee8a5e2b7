abbrev RI (r : Int) (μ : List Ob) : Option Rt := some (some (.inl r), μ)
abbrev RV (μ : List Ob) : Option Rt := some (none, μ)
abbrev RR (q : Nat × Nat) (μ : List Ob) : Option Rt := some (some (.inr (.inl q)), μ)
def xfu : Nat := 1000000
def bz (b : Bool) : Int := if b then 1 else 0
def xclr : List Nat → List (Option AV) → List (Option AV)
  | [], ls => ls
  | n :: ns, ls => xclr ns (put_ ls n none)
def o_cut (ns : List Nat) (k : XK) : XK := fun (ls, st, μ) => k (xclr ns ls, st, μ)
theorem xclr_nth : ∀ (ns : List Nat) (ls : List (Option AV)) (i : Nat) (v : AV), nth (xclr ns ls) i = some (some v) → nth ls i = some (some v)
  | [], ls, i, v, h => h
  | n :: ns, ls, i, v, h => by
    have h1 := xclr_nth ns (put_ ls n none) i v h
    rw [nth_put] at h1
    split at h1
    · rename_i e
      subst e
      cases hn : nth ls i with
      | none => rw [hn] at h1; cases h1
      | some z => rw [hn] at h1; cases h1
    · exact h1
theorem xclr_len : ∀ (ns : List Nat) (ls : List (Option AV)), (xclr ns ls).length = ls.length
  | [], ls => rfl
  | n :: ns, ls => by
    show (xclr ns (put_ ls n none)).length = _
    rw [xclr_len ns, put_len]
theorem s_cut {X : XDyn} {M : XM} {r0 : Rt} {pc : Nat} {k : XK} {ns : List Nat} (hk : XS X M r0 pc k) : XS X M r0 pc (o_cut ns k) := by
  obtain ⟨p, l, e, s, m, args, below, meth, c, D, g, ad, A⟩ := X
  obtain ⟨cc, nL, own, ret, sh, d⟩ := M
  intro ls st μ hμ h H locs lsl hl hP hS
  exact hk (xclr ns ls) st μ hμ h H locs lsl ⟨hl.1, hl.2.1, by rw [xclr_len]; exact hl.2.2.1, fun i v hv => hl.2.2.2 i v (xclr_nth ns ls i v hv)⟩ hP hS

abbrev shw_ : List (List PS) := []
abbrev shw_0_6_4 : List (List PS) := [[.inr (.inl (0, [some (1, 0), some (2, 0), some (0, 1), some (0, 2), some (0, 3), some (0, 4), some (0, 5), none])), .inl (0, 8), .inl (0, 8), .inl (0, 8), .inl (0, 8), .inl (0, 12)], [.inr (.inl (6, [some (1, 1), some (1, 2), none])), .inl (0, 12), .inl (0, 12)], [.inr (.inl (4, [some (2, 1), some (2, 2), none, none, none])), .inl (0, 11), .inl (0, 2048)]]
abbrev shw_0_6_4_3 : List (List PS) := [[.inr (.inl (0, [some (1, 0), some (2, 0), some (0, 1), some (0, 2), some (0, 3), some (0, 4), some (0, 5), none])), .inl (0, 8), .inl (0, 8), .inl (0, 8), .inl (0, 8), .inl (0, 12)], [.inr (.inl (6, [some (1, 1), some (1, 2), none])), .inl (0, 12), .inl (0, 12)], [.inr (.inl (4, [some (2, 1), some (2, 2), none, none, none])), .inl (0, 11), .inl (0, 2048)], [.inr (.inl (3, [some (3, 1), some (3, 2), some (3, 3), some (3, 4), some (3, 5), some (3, 6), some (3, 7), none, none, none, none, none, none, none])), .inl (0, 11), .inl (0, 11), .inl (0, 660), .inl (0, 8), .inl (0, 8), .inl (0, 8), .inl (0, 8)]]
abbrev shw_1_6 : List (List PS) := [[.inr (.inl (1, [some (1, 0), some (0, 1)])), .inl (0, 11)], [.inr (.inl (6, [some (1, 1), some (1, 2), none])), .inl (0, 12), .inl (0, 12)]]
abbrev shw_1_6_3 : List (List PS) := [[.inr (.inl (1, [some (1, 0), some (0, 1)])), .inl (0, 11)], [.inr (.inl (6, [some (1, 1), some (1, 2), none])), .inl (0, 12), .inl (0, 12)], [.inr (.inl (3, [some (2, 1), some (2, 2), some (2, 3), some (2, 4), some (2, 5), some (2, 6), some (2, 7), none, none, none, none, none, none, none])), .inl (0, 11), .inl (0, 11), .inl (0, 660), .inl (0, 8), .inl (0, 8), .inl (0, 8), .inl (0, 8)]]
abbrev shw_2_0_6_4 : List (List PS) := [[.inr (.inl (2, [some (1, 0), none, none, none]))], [.inr (.inl (0, [some (2, 0), some (3, 0), some (1, 1), some (1, 2), some (1, 3), some (1, 4), some (1, 5), none])), .inl (0, 8), .inl (0, 8), .inl (0, 8), .inl (0, 8), .inl (0, 12)], [.inr (.inl (6, [some (2, 1), some (2, 2), none])), .inl (0, 12), .inl (0, 12)], [.inr (.inl (4, [some (3, 1), some (3, 2), none, none, none])), .inl (0, 11), .inl (0, 2048)]]
abbrev shw_2_0_6_4_3 : List (List PS) := [[.inr (.inl (2, [some (1, 0), none, none, none]))], [.inr (.inl (0, [some (2, 0), some (3, 0), some (1, 1), some (1, 2), some (1, 3), some (1, 4), some (1, 5), none])), .inl (0, 8), .inl (0, 8), .inl (0, 8), .inl (0, 8), .inl (0, 12)], [.inr (.inl (6, [some (2, 1), some (2, 2), none])), .inl (0, 12), .inl (0, 12)], [.inr (.inl (4, [some (3, 1), some (3, 2), none, none, none])), .inl (0, 11), .inl (0, 2048)], [.inr (.inl (3, [some (4, 1), some (4, 2), some (4, 3), some (4, 4), some (4, 5), some (4, 6), some (4, 7), none, none, none, none, none, none, none])), .inl (0, 11), .inl (0, 11), .inl (0, 660), .inl (0, 8), .inl (0, 8), .inl (0, 8), .inl (0, 8)]]
abbrev shw_3 : List (List PS) := [[.inr (.inl (3, [some (0, 1), some (0, 2), some (0, 3), some (0, 4), some (0, 5), some (0, 6), some (0, 7), none, none, none, none, none, none, none])), .inl (0, 11), .inl (0, 11), .inl (0, 660), .inl (0, 8), .inl (0, 8), .inl (0, 8), .inl (0, 8)]]
abbrev shw_3_3 : List (List PS) := [[.inr (.inl (3, [some (0, 1), some (0, 2), some (0, 3), some (0, 4), some (0, 5), some (0, 6), some (0, 7), none, none, none, none, none, none, none])), .inl (0, 11), .inl (0, 11), .inl (0, 660), .inl (0, 8), .inl (0, 8), .inl (0, 8), .inl (0, 8)], [.inr (.inl (3, [some (1, 1), some (1, 2), some (1, 3), some (1, 4), some (1, 5), some (1, 6), some (1, 7), none, none, none, none, none, none, none])), .inl (0, 11), .inl (0, 11), .inl (0, 660), .inl (0, 8), .inl (0, 8), .inl (0, 8), .inl (0, 8)]]
abbrev shw_4 : List (List PS) := [[.inr (.inl (4, [some (0, 1), some (0, 2), none, none, none])), .inl (0, 11), .inl (0, 2048)]]
abbrev shw_4_3 : List (List PS) := [[.inr (.inl (4, [some (0, 1), some (0, 2), none, none, none])), .inl (0, 11), .inl (0, 2048)], [.inr (.inl (3, [some (1, 1), some (1, 2), some (1, 3), some (1, 4), some (1, 5), some (1, 6), some (1, 7), none, none, none, none, none, none, none])), .inl (0, 11), .inl (0, 11), .inl (0, 660), .inl (0, 8), .inl (0, 8), .inl (0, 8), .inl (0, 8)]]
abbrev shw_4_6 : List (List PS) := [[.inr (.inl (4, [some (0, 1), some (0, 2), none, none, none])), .inl (0, 11), .inl (0, 2048)], [.inr (.inl (6, [some (1, 1), some (1, 2), none])), .inl (0, 12), .inl (0, 12)]]
abbrev shw_4_6_3 : List (List PS) := [[.inr (.inl (4, [some (0, 1), some (0, 2), none, none, none])), .inl (0, 11), .inl (0, 2048)], [.inr (.inl (6, [some (1, 1), some (1, 2), none])), .inl (0, 12), .inl (0, 12)], [.inr (.inl (3, [some (2, 1), some (2, 2), some (2, 3), some (2, 4), some (2, 5), some (2, 6), some (2, 7), none, none, none, none, none, none, none])), .inl (0, 11), .inl (0, 11), .inl (0, 660), .inl (0, 8), .inl (0, 8), .inl (0, 8), .inl (0, 8)]]
abbrev shw_6 : List (List PS) := [[.inr (.inl (6, [some (0, 1), some (0, 2), none])), .inl (0, 12), .inl (0, 12)]]
abbrev shw_6_3 : List (List PS) := [[.inr (.inl (6, [some (0, 1), some (0, 2), none])), .inl (0, 12), .inl (0, 12)], [.inr (.inl (3, [some (1, 1), some (1, 2), some (1, 3), some (1, 4), some (1, 5), some (1, 6), some (1, 7), none, none, none, none, none, none, none])), .inl (0, 11), .inl (0, 11), .inl (0, 660), .inl (0, 8), .inl (0, 8), .inl (0, 8), .inl (0, 8)]]
abbrev shw_8 : List (List PS) := [[.inr (.inl (8, [some (0, 1), some (0, 2), some (0, 3), none, none, some (0, 4), some (0, 5), some (0, 6), none, some (0, 7), some (0, 8), none, some (0, 9), some (0, 10), some (0, 11), some (0, 12), some (0, 13), some (0, 14), some (0, 15), none, none, none, some (0, 16), none, none])), .inl (0, 735), .inl (0, 735), .inl (0, 8820), .inl (0, 200), .inl (0, 16), .inl (0, 16), .inl (0, 8), .inl (0, 8), .inl (0, 12), .inl (0, 4096), .inl (1, 4096), .inl (1, 4096), .inl (0, 8), .inl (0, 8), .inl (0, 16), .inl (0, 8)]]
abbrev shw_M : List (List PS) := [[.inr (.inl (7, [some (1, 0), some (2, 0), some (3, 0), some (17, 0), some (18, 0), some (19, 0), some (23, 0)]))], [.inr (.inl (3, [some (1, 1), some (1, 2), some (1, 3), some (1, 4), some (1, 5), some (1, 6), some (1, 7), none, none, none, none, none, none, none])), .inl (0, 11), .inl (0, 11), .inl (0, 660), .inl (0, 8), .inl (0, 8), .inl (0, 8), .inl (0, 8)], [.inr (.inl (3, [some (2, 1), some (2, 2), some (2, 3), some (2, 4), some (2, 5), some (2, 6), some (2, 7), none, none, none, none, none, none, none])), .inl (0, 11), .inl (0, 11), .inl (0, 660), .inl (0, 8), .inl (0, 8), .inl (0, 8), .inl (0, 8)], [.inr (.inl (5, [some (3, 1), none, none, none])), .inr (.inr [(4, 0), (5, 0), (6, 0), (7, 0), (8, 0), (9, 0), (10, 0), (11, 0), (12, 0), (13, 0), (14, 0), (15, 0), (16, 0)])], [.inr (.inl (3, [some (4, 1), some (4, 2), some (4, 3), some (4, 4), some (4, 5), some (4, 6), some (4, 7), none, none, none, none, none, none, none])), .inl (0, 11), .inl (0, 11), .inl (0, 660), .inl (0, 8), .inl (0, 8), .inl (0, 8), .inl (0, 8)], [.inr (.inl (3, [some (5, 1), some (5, 2), some (5, 3), some (5, 4), some (5, 5), some (5, 6), some (5, 7), none, none, none, none, none, none, none])), .inl (0, 11), .inl (0, 11), .inl (0, 660), .inl (0, 8), .inl (0, 8), .inl (0, 8), .inl (0, 8)], [.inr (.inl (3, [some (6, 1), some (6, 2), some (6, 3), some (6, 4), some (6, 5), some (6, 6), some (6, 7), none, none, none, none, none, none, none])), .inl (0, 11), .inl (0, 11), .inl (0, 660), .inl (0, 8), .inl (0, 8), .inl (0, 8), .inl (0, 8)], [.inr (.inl (3, [some (7, 1), some (7, 2), some (7, 3), some (7, 4), some (7, 5), some (7, 6), some (7, 7), none, none, none, none, none, none, none])), .inl (0, 11), .inl (0, 11), .inl (0, 660), .inl (0, 8), .inl (0, 8), .inl (0, 8), .inl (0, 8)], [.inr (.inl (3, [some (8, 1), some (8, 2), some (8, 3), some (8, 4), some (8, 5), some (8, 6), some (8, 7), none, none, none, none, none, none, none])), .inl (0, 11), .inl (0, 11), .inl (0, 660), .inl (0, 8), .inl (0, 8), .inl (0, 8), .inl (0, 8)], [.inr (.inl (3, [some (9, 1), some (9, 2), some (9, 3), some (9, 4), some (9, 5), some (9, 6), some (9, 7), none, none, none, none, none, none, none])), .inl (0, 11), .inl (0, 11), .inl (0, 660), .inl (0, 8), .inl (0, 8), .inl (0, 8), .inl (0, 8)], [.inr (.inl (3, [some (10, 1), some (10, 2), some (10, 3), some (10, 4), some (10, 5), some (10, 6), some (10, 7), none, none, none, none, none, none, none])), .inl (0, 11), .inl (0, 11), .inl (0, 660), .inl (0, 8), .inl (0, 8), .inl (0, 8), .inl (0, 8)], [.inr (.inl (3, [some (11, 1), some (11, 2), some (11, 3), some (11, 4), some (11, 5), some (11, 6), some (11, 7), none, none, none, none, none, none, none])), .inl (0, 11), .inl (0, 11), .inl (0, 660), .inl (0, 8), .inl (0, 8), .inl (0, 8), .inl (0, 8)], [.inr (.inl (3, [some (12, 1), some (12, 2), some (12, 3), some (12, 4), some (12, 5), some (12, 6), some (12, 7), none, none, none, none, none, none, none])), .inl (0, 11), .inl (0, 11), .inl (0, 660), .inl (0, 8), .inl (0, 8), .inl (0, 8), .inl (0, 8)], [.inr (.inl (3, [some (13, 1), some (13, 2), some (13, 3), some (13, 4), some (13, 5), some (13, 6), some (13, 7), none, none, none, none, none, none, none])), .inl (0, 11), .inl (0, 11), .inl (0, 660), .inl (0, 8), .inl (0, 8), .inl (0, 8), .inl (0, 8)], [.inr (.inl (3, [some (14, 1), some (14, 2), some (14, 3), some (14, 4), some (14, 5), some (14, 6), some (14, 7), none, none, none, none, none, none, none])), .inl (0, 11), .inl (0, 11), .inl (0, 660), .inl (0, 8), .inl (0, 8), .inl (0, 8), .inl (0, 8)], [.inr (.inl (3, [some (15, 1), some (15, 2), some (15, 3), some (15, 4), some (15, 5), some (15, 6), some (15, 7), none, none, none, none, none, none, none])), .inl (0, 11), .inl (0, 11), .inl (0, 660), .inl (0, 8), .inl (0, 8), .inl (0, 8), .inl (0, 8)], [.inr (.inl (3, [some (16, 1), some (16, 2), some (16, 3), some (16, 4), some (16, 5), some (16, 6), some (16, 7), none, none, none, none, none, none, none])), .inl (0, 11), .inl (0, 11), .inl (0, 660), .inl (0, 8), .inl (0, 8), .inl (0, 8), .inl (0, 8)], [.inr (.inl (6, [some (17, 1), some (17, 2), none])), .inl (0, 12), .inl (0, 12)], [.inr (.inl (4, [some (18, 1), some (18, 2), none, none, none])), .inl (0, 11), .inl (0, 2048)], [.inr (.inl (2, [some (20, 0), none, none, none]))], [.inr (.inl (0, [some (21, 0), some (22, 0), some (20, 1), some (20, 2), some (20, 3), some (20, 4), some (20, 5), none])), .inl (0, 8), .inl (0, 8), .inl (0, 8), .inl (0, 8), .inl (0, 12)], [.inr (.inl (6, [some (21, 1), some (21, 2), none])), .inl (0, 12), .inl (0, 12)], [.inr (.inl (4, [some (22, 1), some (22, 2), none, none, none])), .inl (0, 11), .inl (0, 2048)], [.inr (.inl (1, [some (24, 0), some (23, 1)])), .inl (0, 11)], [.inr (.inl (6, [some (24, 1), some (24, 2), none])), .inl (0, 12), .inl (0, 12)]]
abbrev shw_P : List (List PS) := [[.inr (.inl (5, [some (0, 1), none, none, none])), .inr (.inr [(1, 0), (2, 0), (3, 0), (4, 0), (5, 0), (6, 0), (7, 0), (8, 0), (9, 0), (10, 0), (11, 0), (12, 0), (13, 0)])], [.inr (.inl (3, [some (1, 1), some (1, 2), some (1, 3), some (1, 4), some (1, 5), some (1, 6), some (1, 7), none, none, none, none, none, none, none])), .inl (0, 11), .inl (0, 11), .inl (0, 660), .inl (0, 8), .inl (0, 8), .inl (0, 8), .inl (0, 8)], [.inr (.inl (3, [some (2, 1), some (2, 2), some (2, 3), some (2, 4), some (2, 5), some (2, 6), some (2, 7), none, none, none, none, none, none, none])), .inl (0, 11), .inl (0, 11), .inl (0, 660), .inl (0, 8), .inl (0, 8), .inl (0, 8), .inl (0, 8)], [.inr (.inl (3, [some (3, 1), some (3, 2), some (3, 3), some (3, 4), some (3, 5), some (3, 6), some (3, 7), none, none, none, none, none, none, none])), .inl (0, 11), .inl (0, 11), .inl (0, 660), .inl (0, 8), .inl (0, 8), .inl (0, 8), .inl (0, 8)], [.inr (.inl (3, [some (4, 1), some (4, 2), some (4, 3), some (4, 4), some (4, 5), some (4, 6), some (4, 7), none, none, none, none, none, none, none])), .inl (0, 11), .inl (0, 11), .inl (0, 660), .inl (0, 8), .inl (0, 8), .inl (0, 8), .inl (0, 8)], [.inr (.inl (3, [some (5, 1), some (5, 2), some (5, 3), some (5, 4), some (5, 5), some (5, 6), some (5, 7), none, none, none, none, none, none, none])), .inl (0, 11), .inl (0, 11), .inl (0, 660), .inl (0, 8), .inl (0, 8), .inl (0, 8), .inl (0, 8)], [.inr (.inl (3, [some (6, 1), some (6, 2), some (6, 3), some (6, 4), some (6, 5), some (6, 6), some (6, 7), none, none, none, none, none, none, none])), .inl (0, 11), .inl (0, 11), .inl (0, 660), .inl (0, 8), .inl (0, 8), .inl (0, 8), .inl (0, 8)], [.inr (.inl (3, [some (7, 1), some (7, 2), some (7, 3), some (7, 4), some (7, 5), some (7, 6), some (7, 7), none, none, none, none, none, none, none])), .inl (0, 11), .inl (0, 11), .inl (0, 660), .inl (0, 8), .inl (0, 8), .inl (0, 8), .inl (0, 8)], [.inr (.inl (3, [some (8, 1), some (8, 2), some (8, 3), some (8, 4), some (8, 5), some (8, 6), some (8, 7), none, none, none, none, none, none, none])), .inl (0, 11), .inl (0, 11), .inl (0, 660), .inl (0, 8), .inl (0, 8), .inl (0, 8), .inl (0, 8)], [.inr (.inl (3, [some (9, 1), some (9, 2), some (9, 3), some (9, 4), some (9, 5), some (9, 6), some (9, 7), none, none, none, none, none, none, none])), .inl (0, 11), .inl (0, 11), .inl (0, 660), .inl (0, 8), .inl (0, 8), .inl (0, 8), .inl (0, 8)], [.inr (.inl (3, [some (10, 1), some (10, 2), some (10, 3), some (10, 4), some (10, 5), some (10, 6), some (10, 7), none, none, none, none, none, none, none])), .inl (0, 11), .inl (0, 11), .inl (0, 660), .inl (0, 8), .inl (0, 8), .inl (0, 8), .inl (0, 8)], [.inr (.inl (3, [some (11, 1), some (11, 2), some (11, 3), some (11, 4), some (11, 5), some (11, 6), some (11, 7), none, none, none, none, none, none, none])), .inl (0, 11), .inl (0, 11), .inl (0, 660), .inl (0, 8), .inl (0, 8), .inl (0, 8), .inl (0, 8)], [.inr (.inl (3, [some (12, 1), some (12, 2), some (12, 3), some (12, 4), some (12, 5), some (12, 6), some (12, 7), none, none, none, none, none, none, none])), .inl (0, 11), .inl (0, 11), .inl (0, 660), .inl (0, 8), .inl (0, 8), .inl (0, 8), .inl (0, 8)], [.inr (.inl (3, [some (13, 1), some (13, 2), some (13, 3), some (13, 4), some (13, 5), some (13, 6), some (13, 7), none, none, none, none, none, none, none])), .inl (0, 11), .inl (0, 11), .inl (0, 660), .inl (0, 8), .inl (0, 8), .inl (0, 8), .inl (0, 8)]]
abbrev shw_PH : List (List PS) := [[.inr (.inl (5, [some (0, 1), none, none, none])), .inr (.inr [(1, 0), (2, 0), (3, 0), (4, 0), (5, 0), (6, 0), (7, 0), (8, 0), (9, 0), (10, 0), (11, 0), (12, 0), (13, 0)])], [.inr (.inl (3, [some (1, 1), some (1, 2), some (1, 3), some (1, 4), some (1, 5), some (1, 6), some (1, 7), none, none, none, none, none, none, none])), .inl (0, 11), .inl (0, 11), .inl (0, 660), .inl (0, 8), .inl (0, 8), .inl (0, 8), .inl (0, 8)], [.inr (.inl (3, [some (2, 1), some (2, 2), some (2, 3), some (2, 4), some (2, 5), some (2, 6), some (2, 7), none, none, none, none, none, none, none])), .inl (0, 11), .inl (0, 11), .inl (0, 660), .inl (0, 8), .inl (0, 8), .inl (0, 8), .inl (0, 8)], [.inr (.inl (3, [some (3, 1), some (3, 2), some (3, 3), some (3, 4), some (3, 5), some (3, 6), some (3, 7), none, none, none, none, none, none, none])), .inl (0, 11), .inl (0, 11), .inl (0, 660), .inl (0, 8), .inl (0, 8), .inl (0, 8), .inl (0, 8)], [.inr (.inl (3, [some (4, 1), some (4, 2), some (4, 3), some (4, 4), some (4, 5), some (4, 6), some (4, 7), none, none, none, none, none, none, none])), .inl (0, 11), .inl (0, 11), .inl (0, 660), .inl (0, 8), .inl (0, 8), .inl (0, 8), .inl (0, 8)], [.inr (.inl (3, [some (5, 1), some (5, 2), some (5, 3), some (5, 4), some (5, 5), some (5, 6), some (5, 7), none, none, none, none, none, none, none])), .inl (0, 11), .inl (0, 11), .inl (0, 660), .inl (0, 8), .inl (0, 8), .inl (0, 8), .inl (0, 8)], [.inr (.inl (3, [some (6, 1), some (6, 2), some (6, 3), some (6, 4), some (6, 5), some (6, 6), some (6, 7), none, none, none, none, none, none, none])), .inl (0, 11), .inl (0, 11), .inl (0, 660), .inl (0, 8), .inl (0, 8), .inl (0, 8), .inl (0, 8)], [.inr (.inl (3, [some (7, 1), some (7, 2), some (7, 3), some (7, 4), some (7, 5), some (7, 6), some (7, 7), none, none, none, none, none, none, none])), .inl (0, 11), .inl (0, 11), .inl (0, 660), .inl (0, 8), .inl (0, 8), .inl (0, 8), .inl (0, 8)], [.inr (.inl (3, [some (8, 1), some (8, 2), some (8, 3), some (8, 4), some (8, 5), some (8, 6), some (8, 7), none, none, none, none, none, none, none])), .inl (0, 11), .inl (0, 11), .inl (0, 660), .inl (0, 8), .inl (0, 8), .inl (0, 8), .inl (0, 8)], [.inr (.inl (3, [some (9, 1), some (9, 2), some (9, 3), some (9, 4), some (9, 5), some (9, 6), some (9, 7), none, none, none, none, none, none, none])), .inl (0, 11), .inl (0, 11), .inl (0, 660), .inl (0, 8), .inl (0, 8), .inl (0, 8), .inl (0, 8)], [.inr (.inl (3, [some (10, 1), some (10, 2), some (10, 3), some (10, 4), some (10, 5), some (10, 6), some (10, 7), none, none, none, none, none, none, none])), .inl (0, 11), .inl (0, 11), .inl (0, 660), .inl (0, 8), .inl (0, 8), .inl (0, 8), .inl (0, 8)], [.inr (.inl (3, [some (11, 1), some (11, 2), some (11, 3), some (11, 4), some (11, 5), some (11, 6), some (11, 7), none, none, none, none, none, none, none])), .inl (0, 11), .inl (0, 11), .inl (0, 660), .inl (0, 8), .inl (0, 8), .inl (0, 8), .inl (0, 8)], [.inr (.inl (3, [some (12, 1), some (12, 2), some (12, 3), some (12, 4), some (12, 5), some (12, 6), some (12, 7), none, none, none, none, none, none, none])), .inl (0, 11), .inl (0, 11), .inl (0, 660), .inl (0, 8), .inl (0, 8), .inl (0, 8), .inl (0, 8)], [.inr (.inl (3, [some (13, 1), some (13, 2), some (13, 3), some (13, 4), some (13, 5), some (13, 6), some (13, 7), none, none, none, none, none, none, none])), .inl (0, 11), .inl (0, 11), .inl (0, 660), .inl (0, 8), .inl (0, 8), .inl (0, 8), .inl (0, 8)], [.inr (.inl (3, [some (14, 1), some (14, 2), some (14, 3), some (14, 4), some (14, 5), some (14, 6), some (14, 7), none, none, none, none, none, none, none])), .inl (0, 11), .inl (0, 11), .inl (0, 660), .inl (0, 8), .inl (0, 8), .inl (0, 8), .inl (0, 8)]]
theorem dX3_isFull_0 : decode cX3_isFull 0 = .ok (.iload_n 1, 1) := by decide +kernel
theorem dX3_isFull_1 : decode cX3_isFull 1 = .ok (.ifCond .lt 23, 3) := by decide +kernel
theorem dX3_isFull_4 : decode cX3_isFull 4 = .ok (.iload_n 1, 1) := by decide +kernel
theorem dX3_isFull_5 : decode cX3_isFull 5 = .ok (.bipush 8, 2) := by decide +kernel
theorem dX3_isFull_7 : decode cX3_isFull 7 = .ok (.if_icmp .ge 17, 3) := by decide +kernel
theorem dX3_isFull_10 : decode cX3_isFull 10 = .ok (.aload_n 0, 1) := by decide +kernel
theorem dX3_isFull_11 : decode cX3_isFull 11 = .ok (.getfield 9, 3) := by decide +kernel
theorem dX3_isFull_14 : decode cX3_isFull 14 = .ok (.iload_n 1, 1) := by decide +kernel
theorem dX3_isFull_15 : decode cX3_isFull 15 = .ok (.iaload, 1) := by decide +kernel
theorem dX3_isFull_16 : decode cX3_isFull 16 = .ok (.iconst (-1), 1) := by decide +kernel
theorem dX3_isFull_17 : decode cX3_isFull 17 = .ok (.if_icmp .eq 7, 3) := by decide +kernel
theorem dX3_isFull_20 : decode cX3_isFull 20 = .ok (.iconst 1, 1) := by decide +kernel
theorem dX3_isFull_21 : decode cX3_isFull 21 = .ok (.goto 4, 3) := by decide +kernel
theorem dX3_isFull_24 : decode cX3_isFull 24 = .ok (.iconst 0, 1) := by decide +kernel
theorem dX3_isFull_25 : decode cX3_isFull 25 = .ok (.ireturn, 1) := by decide +kernel
abbrev mX3_isFull : XM := (cX3_isFull, 2, RX3, (some .boolean), shw_3, 0)
def rg_X3_isFull_0 : XK :=
 o_iload 1 <|
 o_if_lt (o_iconst 0 <|
 o_zreturn)
 (o_iload 1 <|
 o_iconst 8 <|
 o_icmp_ge (o_iconst 0 <|
 o_zreturn)
 (o_aload 0 <|
 o_get shw_3 3 0 <|
 o_iload 1 <|
 o_iald shw_3 <|
 o_iconst (-1) <|
 o_icmp_eq (o_iconst 0 <|
 o_zreturn)
 (o_iconst 1 <|
 o_zreturn)))
def en_X3_isFull_0 (p1 : Int) (h0 : Ob) (a : Unit) : XSt := ([some (.inr (.inl (0, 0))), some (.inl p1)], [], [h0])
def mg_X3_isFull_0 (p1 : Int) (h0 : Ob) (a : Unit) : Option Rt :=
 if xw p1 < 0 then (RI 0 [h0])
 else (if xw p1 ≥ 8 then (RI 0 [h0])
 else (if xin p1 11 then (
 if xw (h0 1 (xw p1).toNat) = (-1) then (RI 0 [h0])
 else (RI 1 [h0])) else none))
set_option maxRecDepth 100000 in
set_option maxHeartbeats 4000000 in
theorem rq_X3_isFull_0 (p1 : Int) (h0 : Ob) (a : Unit) : rg_X3_isFull_0 (en_X3_isFull_0 p1 h0 a) = mg_X3_isFull_0 p1 h0 a := rfl
set_option maxRecDepth 100000 in
set_option maxHeartbeats 4000000 in
theorem sg_X3_isFull_0 {X : XDyn} {r0 : Rt} (C : XO X mX3_isFull) : XS X mX3_isFull r0 0 (rg_X3_isFull_0) := by
 unfold rg_X3_isFull_0
 exact s_iload_n (pc := 0) C dX3_isFull_0 rfl <|
    s_if_lt (pc := 1) C dX3_isFull_1 (by decide) (s_iconst (pc := 24) C dX3_isFull_24 <|
    s_zreturn (pc := 25) C rfl dX3_isFull_25)
    (s_iload_n (pc := 4) C dX3_isFull_4 rfl <|
    s_bipush (pc := 5) C dX3_isFull_5 (by decide) <|
    s_icmp_ge (pc := 7) C dX3_isFull_7 (by decide) (s_iconst (pc := 24) C dX3_isFull_24 <|
    s_zreturn (pc := 25) C rfl dX3_isFull_25)
    (s_aload_n (pc := 10) C dX3_isFull_10 rfl <|
    s_get (pc := 11) C (ci := 3) (kf := 0) rfl inX3 (by decide) wd_99 dX3_isFull_11 <|
    s_iload_n (pc := 14) C dX3_isFull_14 rfl <|
    s_iald (pc := 15) C dX3_isFull_15 <|
    s_iconst (pc := 16) C dX3_isFull_16 <|
    s_icmp_eq (pc := 17) C dX3_isFull_17 (by decide) (s_iconst (pc := 24) C dX3_isFull_24 <|
    s_zreturn (pc := 25) C rfl dX3_isFull_25)
    (s_iconst (pc := 20) C dX3_isFull_20 <|
    s_goto (pc := 21) C dX3_isFull_21 (by decide) <|
    s_zreturn (pc := 25) C rfl dX3_isFull_25)))
def rw_X3_isFull_0 : XK := rg_X3_isFull_0
def md_X3_isFull_0 (p1 : Int) (h0 : Ob) : Unit → Option Rt := mg_X3_isFull_0 p1 h0
theorem eq_X3_isFull_0 (p1 : Int) (h0 : Ob) (a : Unit) : rw_X3_isFull_0 (en_X3_isFull_0 p1 h0 a) = md_X3_isFull_0 p1 h0 a :=
 rq_X3_isFull_0 p1 h0 a
theorem sd_X3_isFull_0 {X : XDyn} {r0 : Rt} (C : XO X mX3_isFull) : XS X mX3_isFull r0 0 (rw_X3_isFull_0) := sg_X3_isFull_0 C
theorem ctr_X3_isFull : XCt yX3_isFull mX3_isFull (xF mX3_isFull (rw_X3_isFull_0)) := xMet (by decide +kernel) rfl (fun _ _ C => sd_X3_isFull_0 C)
theorem eqf_X3_isFull (p1 : Int) (h0 : Ob) : xF mX3_isFull (rw_X3_isFull_0) [.inr (.inl (0, 0)), .inl p1] [h0] = md_X3_isFull_0 p1 h0 () := eq_X3_isFull_0 p1 h0 ()
theorem yi_X3_isFull : yX3_isFull.cls = RX3 ∧ yX3_isFull.cls ≠ "java/lang/invoke/MethodHandle" ∧ yX3_isFull.cls ≠ "java/lang/invoke/VarHandle" ∧ (parseMethodDescriptor yX3_isFull.desc).map (fun d => d.parameters.length) = some 1 := ⟨rfl, by decide +kernel, by decide +kernel, by decide +kernel⟩
theorem dX3_isMovable_0 : decode cX3_isMovable 0 = .ok (.iload_n 1, 1) := by decide +kernel
theorem dX3_isMovable_1 : decode cX3_isMovable 1 = .ok (.ifCond .lt 32, 3) := by decide +kernel
theorem dX3_isMovable_4 : decode cX3_isMovable 4 = .ok (.iload_n 1, 1) := by decide +kernel
theorem dX3_isMovable_5 : decode cX3_isMovable 5 = .ok (.bipush 8, 2) := by decide +kernel
theorem dX3_isMovable_7 : decode cX3_isMovable 7 = .ok (.if_icmp .ge 26, 3) := by decide +kernel
theorem dX3_isMovable_10 : decode cX3_isMovable 10 = .ok (.aload_n 0, 1) := by decide +kernel
theorem dX3_isMovable_11 : decode cX3_isMovable 11 = .ok (.getfield 9, 3) := by decide +kernel
theorem dX3_isMovable_14 : decode cX3_isMovable 14 = .ok (.iload_n 1, 1) := by decide +kernel
theorem dX3_isMovable_15 : decode cX3_isMovable 15 = .ok (.iaload, 1) := by decide +kernel
theorem dX3_isMovable_16 : decode cX3_isMovable 16 = .ok (.iconst (-1), 1) := by decide +kernel
theorem dX3_isMovable_17 : decode cX3_isMovable 17 = .ok (.if_icmp .eq 16, 3) := by decide +kernel
theorem dX3_isMovable_20 : decode cX3_isMovable 20 = .ok (.aload_n 0, 1) := by decide +kernel
theorem dX3_isMovable_21 : decode cX3_isMovable 21 = .ok (.getfield 21, 3) := by decide +kernel
theorem dX3_isMovable_24 : decode cX3_isMovable 24 = .ok (.iload_n 1, 1) := by decide +kernel
theorem dX3_isMovable_25 : decode cX3_isMovable 25 = .ok (.iaload, 1) := by decide +kernel
theorem dX3_isMovable_26 : decode cX3_isMovable 26 = .ok (.ifCond .ne 7, 3) := by decide +kernel
theorem dX3_isMovable_29 : decode cX3_isMovable 29 = .ok (.iconst 1, 1) := by decide +kernel
theorem dX3_isMovable_30 : decode cX3_isMovable 30 = .ok (.goto 4, 3) := by decide +kernel
theorem dX3_isMovable_33 : decode cX3_isMovable 33 = .ok (.iconst 0, 1) := by decide +kernel
theorem dX3_isMovable_34 : decode cX3_isMovable 34 = .ok (.ireturn, 1) := by decide +kernel
abbrev mX3_isMovable : XM := (cX3_isMovable, 2, RX3, (some .boolean), shw_3, 0)
def rg_X3_isMovable_0 : XK :=
 o_iload 1 <|
 o_if_lt (o_iconst 0 <|
 o_zreturn)
 (o_iload 1 <|
 o_iconst 8 <|
 o_icmp_ge (o_iconst 0 <|
 o_zreturn)
 (o_aload 0 <|
 o_get shw_3 3 0 <|
 o_iload 1 <|
 o_iald shw_3 <|
 o_iconst (-1) <|
 o_icmp_eq (o_iconst 0 <|
 o_zreturn)
 (o_aload 0 <|
 o_get shw_3 3 3 <|
 o_iload 1 <|
 o_iald shw_3 <|
 o_if_ne (o_iconst 0 <|
 o_zreturn)
 (o_iconst 1 <|
 o_zreturn))))
def en_X3_isMovable_0 (p1 : Int) (h0 : Ob) (a : Unit) : XSt := ([some (.inr (.inl (0, 0))), some (.inl p1)], [], [h0])
def mg_X3_isMovable_0 (p1 : Int) (h0 : Ob) (a : Unit) : Option Rt :=
 if xw p1 < 0 then (RI 0 [h0])
 else (if xw p1 ≥ 8 then (RI 0 [h0])
 else (if xin p1 11 then (
 if xw (h0 1 (xw p1).toNat) = (-1) then (RI 0 [h0])
 else (if xin p1 8 then (
 if xw (h0 4 (xw p1).toNat) = 0 then (RI 1 [h0])
 else (RI 0 [h0])) else none)) else none))
set_option maxRecDepth 100000 in
set_option maxHeartbeats 4000000 in
theorem rq_X3_isMovable_0 (p1 : Int) (h0 : Ob) (a : Unit) : rg_X3_isMovable_0 (en_X3_isMovable_0 p1 h0 a) = mg_X3_isMovable_0 p1 h0 a := rfl
set_option maxRecDepth 100000 in
set_option maxHeartbeats 4000000 in
theorem sg_X3_isMovable_0 {X : XDyn} {r0 : Rt} (C : XO X mX3_isMovable) : XS X mX3_isMovable r0 0 (rg_X3_isMovable_0) := by
 unfold rg_X3_isMovable_0
 exact s_iload_n (pc := 0) C dX3_isMovable_0 rfl <|
    s_if_lt (pc := 1) C dX3_isMovable_1 (by decide) (s_iconst (pc := 33) C dX3_isMovable_33 <|
    s_zreturn (pc := 34) C rfl dX3_isMovable_34)
    (s_iload_n (pc := 4) C dX3_isMovable_4 rfl <|
    s_bipush (pc := 5) C dX3_isMovable_5 (by decide) <|
    s_icmp_ge (pc := 7) C dX3_isMovable_7 (by decide) (s_iconst (pc := 33) C dX3_isMovable_33 <|
    s_zreturn (pc := 34) C rfl dX3_isMovable_34)
    (s_aload_n (pc := 10) C dX3_isMovable_10 rfl <|
    s_get (pc := 11) C (ci := 3) (kf := 0) rfl inX3 (by decide) wd_99 dX3_isMovable_11 <|
    s_iload_n (pc := 14) C dX3_isMovable_14 rfl <|
    s_iald (pc := 15) C dX3_isMovable_15 <|
    s_iconst (pc := 16) C dX3_isMovable_16 <|
    s_icmp_eq (pc := 17) C dX3_isMovable_17 (by decide) (s_iconst (pc := 33) C dX3_isMovable_33 <|
    s_zreturn (pc := 34) C rfl dX3_isMovable_34)
    (s_aload_n (pc := 20) C dX3_isMovable_20 rfl <|
    s_get (pc := 21) C (ci := 3) (kf := 3) rfl inX3 (by decide) wd_112 dX3_isMovable_21 <|
    s_iload_n (pc := 24) C dX3_isMovable_24 rfl <|
    s_iald (pc := 25) C dX3_isMovable_25 <|
    s_if_ne (pc := 26) C dX3_isMovable_26 (by decide) (s_iconst (pc := 33) C dX3_isMovable_33 <|
    s_zreturn (pc := 34) C rfl dX3_isMovable_34)
    (s_iconst (pc := 29) C dX3_isMovable_29 <|
    s_goto (pc := 30) C dX3_isMovable_30 (by decide) <|
    s_zreturn (pc := 34) C rfl dX3_isMovable_34))))
def rw_X3_isMovable_0 : XK := rg_X3_isMovable_0
def md_X3_isMovable_0 (p1 : Int) (h0 : Ob) : Unit → Option Rt := mg_X3_isMovable_0 p1 h0
theorem eq_X3_isMovable_0 (p1 : Int) (h0 : Ob) (a : Unit) : rw_X3_isMovable_0 (en_X3_isMovable_0 p1 h0 a) = md_X3_isMovable_0 p1 h0 a :=
 rq_X3_isMovable_0 p1 h0 a
theorem sd_X3_isMovable_0 {X : XDyn} {r0 : Rt} (C : XO X mX3_isMovable) : XS X mX3_isMovable r0 0 (rw_X3_isMovable_0) := sg_X3_isMovable_0 C
theorem ctr_X3_isMovable : XCt yX3_isMovable mX3_isMovable (xF mX3_isMovable (rw_X3_isMovable_0)) := xMet (by decide +kernel) rfl (fun _ _ C => sd_X3_isMovable_0 C)
theorem eqf_X3_isMovable (p1 : Int) (h0 : Ob) : xF mX3_isMovable (rw_X3_isMovable_0) [.inr (.inl (0, 0)), .inl p1] [h0] = md_X3_isMovable_0 p1 h0 () := eq_X3_isMovable_0 p1 h0 ()
theorem yi_X3_isMovable : yX3_isMovable.cls = RX3 ∧ yX3_isMovable.cls ≠ "java/lang/invoke/MethodHandle" ∧ yX3_isMovable.cls ≠ "java/lang/invoke/VarHandle" ∧ (parseMethodDescriptor yX3_isMovable.desc).map (fun d => d.parameters.length) = some 1 := ⟨rfl, by decide +kernel, by decide +kernel, by decide +kernel⟩
theorem dX3_isIsland_0 : decode cX3_isIsland 0 = .ok (.iload_n 1, 1) := by decide +kernel
theorem dX3_isIsland_1 : decode cX3_isIsland 1 = .ok (.ifCond .lt 25, 3) := by decide +kernel
theorem dX3_isIsland_4 : decode cX3_isIsland 4 = .ok (.iload_n 1, 1) := by decide +kernel
theorem dX3_isIsland_5 : decode cX3_isIsland 5 = .ok (.iconst 3, 1) := by decide +kernel
theorem dX3_isIsland_6 : decode cX3_isIsland 6 = .ok (.if_icmp .ge 20, 3) := by decide +kernel
theorem dX3_isIsland_9 : decode cX3_isIsland 9 = .ok (.aload_n 0, 1) := by decide +kernel
theorem dX3_isIsland_10 : decode cX3_isIsland 10 = .ok (.getfield 9, 3) := by decide +kernel
theorem dX3_isIsland_13 : decode cX3_isIsland 13 = .ok (.bipush 8, 2) := by decide +kernel
theorem dX3_isIsland_15 : decode cX3_isIsland 15 = .ok (.iload_n 1, 1) := by decide +kernel
theorem dX3_isIsland_16 : decode cX3_isIsland 16 = .ok (.iadd, 1) := by decide +kernel
theorem dX3_isIsland_17 : decode cX3_isIsland 17 = .ok (.iaload, 1) := by decide +kernel
theorem dX3_isIsland_18 : decode cX3_isIsland 18 = .ok (.iconst (-1), 1) := by decide +kernel
theorem dX3_isIsland_19 : decode cX3_isIsland 19 = .ok (.if_icmp .eq 7, 3) := by decide +kernel
theorem dX3_isIsland_22 : decode cX3_isIsland 22 = .ok (.iconst 1, 1) := by decide +kernel
theorem dX3_isIsland_23 : decode cX3_isIsland 23 = .ok (.goto 4, 3) := by decide +kernel
theorem dX3_isIsland_26 : decode cX3_isIsland 26 = .ok (.iconst 0, 1) := by decide +kernel
theorem dX3_isIsland_27 : decode cX3_isIsland 27 = .ok (.ireturn, 1) := by decide +kernel
abbrev mX3_isIsland : XM := (cX3_isIsland, 2, RX3, (some .boolean), shw_3, 0)
def rg_X3_isIsland_0 : XK :=
 o_iload 1 <|
 o_if_lt (o_iconst 0 <|
 o_zreturn)
 (o_iload 1 <|
 o_iconst 3 <|
 o_icmp_ge (o_iconst 0 <|
 o_zreturn)
 (o_aload 0 <|
 o_get shw_3 3 0 <|
 o_iconst 8 <|
 o_iload 1 <|
 o_iadd <|
 o_iald shw_3 <|
 o_iconst (-1) <|
 o_icmp_eq (o_iconst 0 <|
 o_zreturn)
 (o_iconst 1 <|
 o_zreturn)))
def en_X3_isIsland_0 (p1 : Int) (h0 : Ob) (a : Unit) : XSt := ([some (.inr (.inl (0, 0))), some (.inl p1)], [], [h0])
def mg_X3_isIsland_0 (p1 : Int) (h0 : Ob) (a : Unit) : Option Rt :=
 if xw p1 < 0 then (RI 0 [h0])
 else (if xw p1 ≥ 3 then (RI 0 [h0])
 else (if xin (8 + p1) 11 then (
 if xw (h0 1 (xw (8 + p1)).toNat) = (-1) then (RI 0 [h0])
 else (RI 1 [h0])) else none))
set_option maxRecDepth 100000 in
set_option maxHeartbeats 4000000 in
theorem rq_X3_isIsland_0 (p1 : Int) (h0 : Ob) (a : Unit) : rg_X3_isIsland_0 (en_X3_isIsland_0 p1 h0 a) = mg_X3_isIsland_0 p1 h0 a := rfl
set_option maxRecDepth 100000 in
set_option maxHeartbeats 4000000 in
theorem sg_X3_isIsland_0 {X : XDyn} {r0 : Rt} (C : XO X mX3_isIsland) : XS X mX3_isIsland r0 0 (rg_X3_isIsland_0) := by
 unfold rg_X3_isIsland_0
 exact s_iload_n (pc := 0) C dX3_isIsland_0 rfl <|
    s_if_lt (pc := 1) C dX3_isIsland_1 (by decide) (s_iconst (pc := 26) C dX3_isIsland_26 <|
    s_zreturn (pc := 27) C rfl dX3_isIsland_27)
    (s_iload_n (pc := 4) C dX3_isIsland_4 rfl <|
    s_iconst (pc := 5) C dX3_isIsland_5 <|
    s_icmp_ge (pc := 6) C dX3_isIsland_6 (by decide) (s_iconst (pc := 26) C dX3_isIsland_26 <|
    s_zreturn (pc := 27) C rfl dX3_isIsland_27)
    (s_aload_n (pc := 9) C dX3_isIsland_9 rfl <|
    s_get (pc := 10) C (ci := 3) (kf := 0) rfl inX3 (by decide) wd_99 dX3_isIsland_10 <|
    s_bipush (pc := 13) C dX3_isIsland_13 (by decide) <|
    s_iload_n (pc := 15) C dX3_isIsland_15 rfl <|
    s_iadd (pc := 16) C dX3_isIsland_16 <|
    s_iald (pc := 17) C dX3_isIsland_17 <|
    s_iconst (pc := 18) C dX3_isIsland_18 <|
    s_icmp_eq (pc := 19) C dX3_isIsland_19 (by decide) (s_iconst (pc := 26) C dX3_isIsland_26 <|
    s_zreturn (pc := 27) C rfl dX3_isIsland_27)
    (s_iconst (pc := 22) C dX3_isIsland_22 <|
    s_goto (pc := 23) C dX3_isIsland_23 (by decide) <|
    s_zreturn (pc := 27) C rfl dX3_isIsland_27)))
def rw_X3_isIsland_0 : XK := rg_X3_isIsland_0
def md_X3_isIsland_0 (p1 : Int) (h0 : Ob) : Unit → Option Rt := mg_X3_isIsland_0 p1 h0
theorem eq_X3_isIsland_0 (p1 : Int) (h0 : Ob) (a : Unit) : rw_X3_isIsland_0 (en_X3_isIsland_0 p1 h0 a) = md_X3_isIsland_0 p1 h0 a :=
 rq_X3_isIsland_0 p1 h0 a
theorem sd_X3_isIsland_0 {X : XDyn} {r0 : Rt} (C : XO X mX3_isIsland) : XS X mX3_isIsland r0 0 (rw_X3_isIsland_0) := sg_X3_isIsland_0 C
theorem ctr_X3_isIsland : XCt yX3_isIsland mX3_isIsland (xF mX3_isIsland (rw_X3_isIsland_0)) := xMet (by decide +kernel) rfl (fun _ _ C => sd_X3_isIsland_0 C)
theorem eqf_X3_isIsland (p1 : Int) (h0 : Ob) : xF mX3_isIsland (rw_X3_isIsland_0) [.inr (.inl (0, 0)), .inl p1] [h0] = md_X3_isIsland_0 p1 h0 () := eq_X3_isIsland_0 p1 h0 ()
theorem yi_X3_isIsland : yX3_isIsland.cls = RX3 ∧ yX3_isIsland.cls ≠ "java/lang/invoke/MethodHandle" ∧ yX3_isIsland.cls ≠ "java/lang/invoke/VarHandle" ∧ (parseMethodDescriptor yX3_isIsland.desc).map (fun d => d.parameters.length) = some 1 := ⟨rfl, by decide +kernel, by decide +kernel, by decide +kernel⟩
theorem dX3_isCell_0 : decode cX3_isCell 0 = .ok (.iload_n 1, 1) := by decide +kernel
theorem dX3_isCell_1 : decode cX3_isCell 1 = .ok (.ifCond .lt 15, 3) := by decide +kernel
theorem dX3_isCell_4 : decode cX3_isCell 4 = .ok (.iload_n 1, 1) := by decide +kernel
theorem dX3_isCell_5 : decode cX3_isCell 5 = .ok (.aload_n 0, 1) := by decide +kernel
theorem dX3_isCell_6 : decode cX3_isCell 6 = .ok (.getfield 40, 3) := by decide +kernel
theorem dX3_isCell_9 : decode cX3_isCell 9 = .ok (.if_icmp .ge 7, 3) := by decide +kernel
theorem dX3_isCell_12 : decode cX3_isCell 12 = .ok (.iconst 1, 1) := by decide +kernel
theorem dX3_isCell_13 : decode cX3_isCell 13 = .ok (.goto 4, 3) := by decide +kernel
theorem dX3_isCell_16 : decode cX3_isCell 16 = .ok (.iconst 0, 1) := by decide +kernel
theorem dX3_isCell_17 : decode cX3_isCell 17 = .ok (.ireturn, 1) := by decide +kernel
abbrev mX3_isCell : XM := (cX3_isCell, 2, RX3, (some .boolean), shw_3, 0)
def rg_X3_isCell_0 : XK :=
 o_iload 1 <|
 o_if_lt (o_iconst 0 <|
 o_zreturn)
 (o_iload 1 <|
 o_aload 0 <|
 o_get shw_3 3 9 <|
 o_icmp_ge (o_iconst 0 <|
 o_zreturn)
 (o_iconst 1 <|
 o_zreturn))
def en_X3_isCell_0 (p1 : Int) (h0 : Ob) (a : Unit) : XSt := ([some (.inr (.inl (0, 0))), some (.inl p1)], [], [h0])
def mg_X3_isCell_0 (p1 : Int) (h0 : Ob) (a : Unit) : Option Rt :=
 if xw p1 < 0 then (RI 0 [h0])
 else (if xw p1 ≥ xw (h0 0 9) then (RI 0 [h0])
 else (RI 1 [h0]))
set_option maxRecDepth 100000 in
set_option maxHeartbeats 4000000 in
theorem rq_X3_isCell_0 (p1 : Int) (h0 : Ob) (a : Unit) : rg_X3_isCell_0 (en_X3_isCell_0 p1 h0 a) = mg_X3_isCell_0 p1 h0 a := rfl
set_option maxRecDepth 100000 in
set_option maxHeartbeats 4000000 in
theorem sg_X3_isCell_0 {X : XDyn} {r0 : Rt} (C : XO X mX3_isCell) : XS X mX3_isCell r0 0 (rg_X3_isCell_0) := by
 unfold rg_X3_isCell_0
 exact s_iload_n (pc := 0) C dX3_isCell_0 rfl <|
    s_if_lt (pc := 1) C dX3_isCell_1 (by decide) (s_iconst (pc := 16) C dX3_isCell_16 <|
    s_zreturn (pc := 17) C rfl dX3_isCell_17)
    (s_iload_n (pc := 4) C dX3_isCell_4 rfl <|
    s_aload_n (pc := 5) C dX3_isCell_5 rfl <|
    s_get (pc := 6) C (ci := 3) (kf := 9) rfl inX3 (by decide) wd_127 dX3_isCell_6 <|
    s_icmp_ge (pc := 9) C dX3_isCell_9 (by decide) (s_iconst (pc := 16) C dX3_isCell_16 <|
    s_zreturn (pc := 17) C rfl dX3_isCell_17)
    (s_iconst (pc := 12) C dX3_isCell_12 <|
    s_goto (pc := 13) C dX3_isCell_13 (by decide) <|
    s_zreturn (pc := 17) C rfl dX3_isCell_17))
def rw_X3_isCell_0 : XK := rg_X3_isCell_0
def md_X3_isCell_0 (p1 : Int) (h0 : Ob) : Unit → Option Rt := mg_X3_isCell_0 p1 h0
theorem eq_X3_isCell_0 (p1 : Int) (h0 : Ob) (a : Unit) : rw_X3_isCell_0 (en_X3_isCell_0 p1 h0 a) = md_X3_isCell_0 p1 h0 a :=
 rq_X3_isCell_0 p1 h0 a
theorem sd_X3_isCell_0 {X : XDyn} {r0 : Rt} (C : XO X mX3_isCell) : XS X mX3_isCell r0 0 (rw_X3_isCell_0) := sg_X3_isCell_0 C
theorem ctr_X3_isCell : XCt yX3_isCell mX3_isCell (xF mX3_isCell (rw_X3_isCell_0)) := xMet (by decide +kernel) rfl (fun _ _ C => sd_X3_isCell_0 C)
theorem eqf_X3_isCell (p1 : Int) (h0 : Ob) : xF mX3_isCell (rw_X3_isCell_0) [.inr (.inl (0, 0)), .inl p1] [h0] = md_X3_isCell_0 p1 h0 () := eq_X3_isCell_0 p1 h0 ()
theorem yi_X3_isCell : yX3_isCell.cls = RX3 ∧ yX3_isCell.cls ≠ "java/lang/invoke/MethodHandle" ∧ yX3_isCell.cls ≠ "java/lang/invoke/VarHandle" ∧ (parseMethodDescriptor yX3_isCell.desc).map (fun d => d.parameters.length) = some 1 := ⟨rfl, by decide +kernel, by decide +kernel, by decide +kernel⟩
theorem dX3_holderAt_0 : decode cX3_holderAt 0 = .ok (.iconst 0, 1) := by decide +kernel
theorem dX3_holderAt_1 : decode cX3_holderAt 1 = .ok (.istore_n 2, 1) := by decide +kernel
theorem dX3_holderAt_2 : decode cX3_holderAt 2 = .ok (.iload_n 2, 1) := by decide +kernel
theorem dX3_holderAt_3 : decode cX3_holderAt 3 = .ok (.bipush 11, 2) := by decide +kernel
theorem dX3_holderAt_5 : decode cX3_holderAt 5 = .ok (.if_icmp .ge 21, 3) := by decide +kernel
theorem dX3_holderAt_8 : decode cX3_holderAt 8 = .ok (.aload_n 0, 1) := by decide +kernel
theorem dX3_holderAt_9 : decode cX3_holderAt 9 = .ok (.getfield 9, 3) := by decide +kernel
theorem dX3_holderAt_12 : decode cX3_holderAt 12 = .ok (.iload_n 2, 1) := by decide +kernel
theorem dX3_holderAt_13 : decode cX3_holderAt 13 = .ok (.iaload, 1) := by decide +kernel
theorem dX3_holderAt_14 : decode cX3_holderAt 14 = .ok (.iload_n 1, 1) := by decide +kernel
theorem dX3_holderAt_15 : decode cX3_holderAt 15 = .ok (.if_icmp .ne 5, 3) := by decide +kernel
theorem dX3_holderAt_18 : decode cX3_holderAt 18 = .ok (.iload_n 2, 1) := by decide +kernel
theorem dX3_holderAt_19 : decode cX3_holderAt 19 = .ok (.ireturn, 1) := by decide +kernel
theorem dX3_holderAt_20 : decode cX3_holderAt 20 = .ok (.iinc 2 1, 3) := by decide +kernel
theorem dX3_holderAt_23 : decode cX3_holderAt 23 = .ok (.goto (-21), 3) := by decide +kernel
theorem dX3_holderAt_26 : decode cX3_holderAt 26 = .ok (.iconst (-1), 1) := by decide +kernel
theorem dX3_holderAt_27 : decode cX3_holderAt 27 = .ok (.ireturn, 1) := by decide +kernel
abbrev mX3_holderAt : XM := (cX3_holderAt, 3, RX3, (some .int), shw_3, 0)
def rg_X3_holderAt_0 (k2 : XK) : XK :=
 o_iconst 0 <|
 o_istore 2 <|
 o_cut [] k2
def en_X3_holderAt_0 (p1 : Int) (h0 : Ob) (a : Unit) : XSt := ([some (.inr (.inl (0, 0))), some (.inl p1), none], [], [h0])
def rg_X3_holderAt_2 (k2 : XK) : XK :=
 o_iload 2 <|
 o_iconst 11 <|
 o_icmp_ge (o_iconst (-1) <|
 o_ireturn)
 (o_aload 0 <|
 o_get shw_3 3 0 <|
 o_iload 2 <|
 o_iald shw_3 <|
 o_iload 1 <|
 o_icmp_ne (o_iinc 2 1 <|
 o_cut [] k2)
 (o_iload 2 <|
 o_ireturn))
def en_X3_holderAt_2 (p1 : Int) (h0 : Ob) (a : Int) : XSt := ([some (.inr (.inl (0, 0))), some (.inl p1), some (.inl a)], [], [h0])
def mg_X3_holderAt_0 (p1 : Int) (h0 : Ob) (k2 : Int → Option Rt) (a : Unit) : Option Rt :=
 k2 0
set_option maxRecDepth 100000 in
set_option maxHeartbeats 4000000 in
theorem rq_X3_holderAt_0 (p1 : Int) (h0 : Ob) (k2 : XK) (a : Unit) : rg_X3_holderAt_0 k2 (en_X3_holderAt_0 p1 h0 a) = mg_X3_holderAt_0 p1 h0 (fun b => k2 (en_X3_holderAt_2 p1 h0 b)) a := rfl
set_option maxRecDepth 100000 in
set_option maxHeartbeats 4000000 in
theorem sg_X3_holderAt_0 {X : XDyn} {r0 : Rt} (C : XO X mX3_holderAt) {k2 : XK} (q2 : XS X mX3_holderAt r0 2 k2) : XS X mX3_holderAt r0 0 (rg_X3_holderAt_0 k2) := by
 unfold rg_X3_holderAt_0
 exact s_iconst (pc := 0) C dX3_holderAt_0 <|
    s_istore_n (pc := 1) C dX3_holderAt_1 rfl <|
    s_cut q2
def mg_X3_holderAt_2 (p1 : Int) (h0 : Ob) (k2 : Int → Option Rt) (a : Int) : Option Rt :=
 if xw a ≥ 11 then (RI (-1) [h0])
 else (if xin a 11 then (
 if xw (h0 1 (xw a).toNat) = xw p1 then (RI a [h0])
 else (k2 (a + 1))) else none)
set_option maxRecDepth 100000 in
set_option maxHeartbeats 4000000 in
theorem rq_X3_holderAt_2 (p1 : Int) (h0 : Ob) (k2 : XK) (a : Int) : rg_X3_holderAt_2 k2 (en_X3_holderAt_2 p1 h0 a) = mg_X3_holderAt_2 p1 h0 (fun b => k2 (en_X3_holderAt_2 p1 h0 b)) a := rfl
set_option maxRecDepth 100000 in
set_option maxHeartbeats 4000000 in
theorem sg_X3_holderAt_2 {X : XDyn} {r0 : Rt} (C : XO X mX3_holderAt) {k2 : XK} (q2 : XS X mX3_holderAt r0 2 k2) : XS X mX3_holderAt r0 2 (rg_X3_holderAt_2 k2) := by
 unfold rg_X3_holderAt_2
 exact s_iload_n (pc := 2) C dX3_holderAt_2 rfl <|
    s_bipush (pc := 3) C dX3_holderAt_3 (by decide) <|
    s_icmp_ge (pc := 5) C dX3_holderAt_5 (by decide) (s_iconst (pc := 26) C dX3_holderAt_26 <|
    s_ireturn (pc := 27) C rfl dX3_holderAt_27)
    (s_aload_n (pc := 8) C dX3_holderAt_8 rfl <|
    s_get (pc := 9) C (ci := 3) (kf := 0) rfl inX3 (by decide) wd_99 dX3_holderAt_9 <|
    s_iload_n (pc := 12) C dX3_holderAt_12 rfl <|
    s_iald (pc := 13) C dX3_holderAt_13 <|
    s_iload_n (pc := 14) C dX3_holderAt_14 rfl <|
    s_icmp_ne (pc := 15) C dX3_holderAt_15 (by decide) (s_iinc (pc := 20) C dX3_holderAt_20 <|
    s_goto (pc := 23) C dX3_holderAt_23 (by decide) <|
    s_cut q2)
    (s_iload_n (pc := 18) C dX3_holderAt_18 rfl <|
    s_ireturn (pc := 19) C rfl dX3_holderAt_19))
def rw_X3_holderAt_2 (f : Nat) : XK := tlp (fun k2 => rg_X3_holderAt_2 k2) f
def lb_X3_holderAt_2 (p1 : Int) (h0 : Ob) (f : Nat) : ((Int) → Option Rt) → Int → Option Rt := fun k2 => mg_X3_holderAt_2 p1 h0 k2
def md_X3_holderAt_2 (p1 : Int) (h0 : Ob) (f : Nat) : Int → Option Rt := tlp (lb_X3_holderAt_2 p1 h0 f) f
theorem eq_X3_holderAt_2 (p1 : Int) (h0 : Ob) (f : Nat) (a : Int) : rw_X3_holderAt_2 f (en_X3_holderAt_2 p1 h0 a) = md_X3_holderAt_2 p1 h0 f a :=
 tlp_enc (en_X3_holderAt_2 p1 h0) (fun k2 a => (rq_X3_holderAt_2 p1 h0 k2 a).trans (congrFun (congr (rfl : mg_X3_holderAt_2 p1 h0 = mg_X3_holderAt_2 p1 h0) rfl) a)) f a
theorem sd_X3_holderAt_2 (f : Nat) {X : XDyn} {r0 : Rt} (C : XO X mX3_holderAt) : XS X mX3_holderAt r0 2 (rw_X3_holderAt_2 f) := s_lp (fun k2 q2 => sg_X3_holderAt_2 C q2) f
def rw_X3_holderAt_0 (f : Nat) : XK := rg_X3_holderAt_0 (rw_X3_holderAt_2 f)
def md_X3_holderAt_0 (p1 : Int) (h0 : Ob) (f : Nat) : Unit → Option Rt := mg_X3_holderAt_0 p1 h0 (md_X3_holderAt_2 p1 h0 f)
theorem eq_X3_holderAt_0 (p1 : Int) (h0 : Ob) (f : Nat) (a : Unit) : rw_X3_holderAt_0 f (en_X3_holderAt_0 p1 h0 a) = md_X3_holderAt_0 p1 h0 f a :=
 (rq_X3_holderAt_0 p1 h0 (rw_X3_holderAt_2 f) a).trans (congrFun (congr (rfl : mg_X3_holderAt_0 p1 h0 = mg_X3_holderAt_0 p1 h0) (funext (eq_X3_holderAt_2 p1 h0 f))) a)
theorem sd_X3_holderAt_0 (f : Nat) {X : XDyn} {r0 : Rt} (C : XO X mX3_holderAt) : XS X mX3_holderAt r0 0 (rw_X3_holderAt_0 f) := sg_X3_holderAt_0 C (sd_X3_holderAt_2 f C)
theorem ctr_X3_holderAt (f : Nat) : XCt yX3_holderAt mX3_holderAt (xF mX3_holderAt (rw_X3_holderAt_0 f)) := xMet (by decide +kernel) rfl (fun _ _ C => sd_X3_holderAt_0 f C)
theorem eqf_X3_holderAt (f : Nat) (p1 : Int) (h0 : Ob) : xF mX3_holderAt (rw_X3_holderAt_0 f) [.inr (.inl (0, 0)), .inl p1] [h0] = md_X3_holderAt_0 p1 h0 f () := eq_X3_holderAt_0 p1 h0 f ()
theorem yi_X3_holderAt : yX3_holderAt.cls = RX3 ∧ yX3_holderAt.cls ≠ "java/lang/invoke/MethodHandle" ∧ yX3_holderAt.cls ≠ "java/lang/invoke/VarHandle" ∧ (parseMethodDescriptor yX3_holderAt.desc).map (fun d => d.parameters.length) = some 1 := ⟨rfl, by decide +kernel, by decide +kernel, by decide +kernel⟩
theorem dX3_endAt_0 : decode cX3_endAt 0 = .ok (.iload_n 2, 1) := by decide +kernel
theorem dX3_endAt_1 : decode cX3_endAt 1 = .ok (.istore_n 3, 1) := by decide +kernel
theorem dX3_endAt_2 : decode cX3_endAt 2 = .ok (.iconst 0, 1) := by decide +kernel
theorem dX3_endAt_3 : decode cX3_endAt 3 = .ok (.istore 4, 2) := by decide +kernel
theorem dX3_endAt_5 : decode cX3_endAt 5 = .ok (.iload 4, 2) := by decide +kernel
theorem dX3_endAt_7 : decode cX3_endAt 7 = .ok (.bipush 11, 2) := by decide +kernel
theorem dX3_endAt_9 : decode cX3_endAt 9 = .ok (.if_icmp .ge 62, 3) := by decide +kernel
theorem dX3_endAt_12 : decode cX3_endAt 12 = .ok (.aload_n 0, 1) := by decide +kernel
theorem dX3_endAt_13 : decode cX3_endAt 13 = .ok (.getfield 9, 3) := by decide +kernel
theorem dX3_endAt_16 : decode cX3_endAt 16 = .ok (.iload 4, 2) := by decide +kernel
theorem dX3_endAt_18 : decode cX3_endAt 18 = .ok (.iaload, 1) := by decide +kernel
theorem dX3_endAt_19 : decode cX3_endAt 19 = .ok (.iload_n 1, 1) := by decide +kernel
theorem dX3_endAt_20 : decode cX3_endAt 20 = .ok (.if_icmp .ne 15, 3) := by decide +kernel
theorem dX3_endAt_23 : decode cX3_endAt 23 = .ok (.iload_n 1, 1) := by decide +kernel
theorem dX3_endAt_24 : decode cX3_endAt 24 = .ok (.aload_n 0, 1) := by decide +kernel
theorem dX3_endAt_25 : decode cX3_endAt 25 = .ok (.getfield 15, 3) := by decide +kernel
theorem dX3_endAt_28 : decode cX3_endAt 28 = .ok (.iload 4, 2) := by decide +kernel
theorem dX3_endAt_30 : decode cX3_endAt 30 = .ok (.iaload, 1) := by decide +kernel
theorem dX3_endAt_31 : decode cX3_endAt 31 = .ok (.iadd, 1) := by decide +kernel
theorem dX3_endAt_32 : decode cX3_endAt 32 = .ok (.iconst 1, 1) := by decide +kernel
theorem dX3_endAt_33 : decode cX3_endAt 33 = .ok (.iadd, 1) := by decide +kernel
theorem dX3_endAt_34 : decode cX3_endAt 34 = .ok (.ireturn, 1) := by decide +kernel
theorem dX3_endAt_35 : decode cX3_endAt 35 = .ok (.aload_n 0, 1) := by decide +kernel
theorem dX3_endAt_36 : decode cX3_endAt 36 = .ok (.getfield 9, 3) := by decide +kernel
theorem dX3_endAt_39 : decode cX3_endAt 39 = .ok (.iload 4, 2) := by decide +kernel
theorem dX3_endAt_41 : decode cX3_endAt 41 = .ok (.iaload, 1) := by decide +kernel
theorem dX3_endAt_42 : decode cX3_endAt 42 = .ok (.iload_n 1, 1) := by decide +kernel
theorem dX3_endAt_43 : decode cX3_endAt 43 = .ok (.if_icmp .le 22, 3) := by decide +kernel
theorem dX3_endAt_46 : decode cX3_endAt 46 = .ok (.aload_n 0, 1) := by decide +kernel
theorem dX3_endAt_47 : decode cX3_endAt 47 = .ok (.getfield 9, 3) := by decide +kernel
theorem dX3_endAt_50 : decode cX3_endAt 50 = .ok (.iload 4, 2) := by decide +kernel
theorem dX3_endAt_52 : decode cX3_endAt 52 = .ok (.iaload, 1) := by decide +kernel
theorem dX3_endAt_53 : decode cX3_endAt 53 = .ok (.iload_n 3, 1) := by decide +kernel
theorem dX3_endAt_54 : decode cX3_endAt 54 = .ok (.if_icmp .ge 11, 3) := by decide +kernel
theorem dX3_endAt_57 : decode cX3_endAt 57 = .ok (.aload_n 0, 1) := by decide +kernel
theorem dX3_endAt_58 : decode cX3_endAt 58 = .ok (.getfield 9, 3) := by decide +kernel
theorem dX3_endAt_61 : decode cX3_endAt 61 = .ok (.iload 4, 2) := by decide +kernel
theorem dX3_endAt_63 : decode cX3_endAt 63 = .ok (.iaload, 1) := by decide +kernel
theorem dX3_endAt_64 : decode cX3_endAt 64 = .ok (.istore_n 3, 1) := by decide +kernel
theorem dX3_endAt_65 : decode cX3_endAt 65 = .ok (.iinc 4 1, 3) := by decide +kernel
theorem dX3_endAt_68 : decode cX3_endAt 68 = .ok (.goto (-63), 3) := by decide +kernel
theorem dX3_endAt_71 : decode cX3_endAt 71 = .ok (.iload_n 3, 1) := by decide +kernel
theorem dX3_endAt_72 : decode cX3_endAt 72 = .ok (.ireturn, 1) := by decide +kernel
abbrev mX3_endAt : XM := (cX3_endAt, 5, RX3, (some .int), shw_3, 0)
def rg_X3_endAt_0 (k5 : XK) : XK :=
 o_iload 2 <|
 o_istore 3 <|
 o_iconst 0 <|
 o_istore 4 <|
 o_cut [] k5
def en_X3_endAt_0 (p1 : Int) (p2 : Int) (h0 : Ob) (a : Unit) : XSt := ([some (.inr (.inl (0, 0))), some (.inl p1), some (.inl p2), none, none], [], [h0])
def rg_X3_endAt_5 (k65 : XK) : XK :=
 o_iload 4 <|
 o_iconst 11 <|
 o_icmp_ge (o_iload 3 <|
 o_ireturn)
 (o_aload 0 <|
 o_get shw_3 3 0 <|
 o_iload 4 <|
 o_iald shw_3 <|
 o_iload 1 <|
 o_icmp_ne (o_aload 0 <|
 o_get shw_3 3 0 <|
 o_iload 4 <|
 o_iald shw_3 <|
 o_iload 1 <|
 o_icmp_le (o_cut [] k65)
 (o_aload 0 <|
 o_get shw_3 3 0 <|
 o_iload 4 <|
 o_iald shw_3 <|
 o_iload 3 <|
 o_icmp_ge (o_cut [] k65)
 (o_aload 0 <|
 o_get shw_3 3 0 <|
 o_iload 4 <|
 o_iald shw_3 <|
 o_istore 3 <|
 o_cut [] k65)))
 (o_iload 1 <|
 o_aload 0 <|
 o_get shw_3 3 1 <|
 o_iload 4 <|
 o_iald shw_3 <|
 o_iadd <|
 o_iconst 1 <|
 o_iadd <|
 o_ireturn))
def en_X3_endAt_5 (p1 : Int) (p2 : Int) (h0 : Ob) (a : Int × Int) : XSt := ([some (.inr (.inl (0, 0))), some (.inl p1), some (.inl p2), some (.inl a.1), some (.inl a.2)], [], [h0])
def rg_X3_endAt_65 (k5 : XK) : XK :=
 o_iinc 4 1 <|
 o_cut [] k5
def en_X3_endAt_65 (p1 : Int) (p2 : Int) (h0 : Ob) (a : Int × Int) : XSt := ([some (.inr (.inl (0, 0))), some (.inl p1), some (.inl p2), some (.inl a.1), some (.inl a.2)], [], [h0])
def mg_X3_endAt_0 (p1 : Int) (p2 : Int) (h0 : Ob) (k5 : (Int × Int) → Option Rt) (a : Unit) : Option Rt :=
 k5 (p2, 0)
set_option maxRecDepth 100000 in
set_option maxHeartbeats 4000000 in
theorem rq_X3_endAt_0 (p1 : Int) (p2 : Int) (h0 : Ob) (k5 : XK) (a : Unit) : rg_X3_endAt_0 k5 (en_X3_endAt_0 p1 p2 h0 a) = mg_X3_endAt_0 p1 p2 h0 (fun b => k5 (en_X3_endAt_5 p1 p2 h0 b)) a := rfl
set_option maxRecDepth 100000 in
set_option maxHeartbeats 4000000 in
theorem sg_X3_endAt_0 {X : XDyn} {r0 : Rt} (C : XO X mX3_endAt) {k5 : XK} (q5 : XS X mX3_endAt r0 5 k5) : XS X mX3_endAt r0 0 (rg_X3_endAt_0 k5) := by
 unfold rg_X3_endAt_0
 exact s_iload_n (pc := 0) C dX3_endAt_0 rfl <|
    s_istore_n (pc := 1) C dX3_endAt_1 rfl <|
    s_iconst (pc := 2) C dX3_endAt_2 <|
    s_istore (pc := 3) C dX3_endAt_3 <|
    s_cut q5
def mg_X3_endAt_5 (p1 : Int) (p2 : Int) (h0 : Ob) (k65 : (Int × Int) → Option Rt) (a : Int × Int) : Option Rt :=
 if xw a.2 ≥ 11 then (RI a.1 [h0])
 else (if xin a.2 11 then (
 if xw (h0 1 (xw a.2).toNat) = xw p1 then (if xin a.2 11 then (
 RI ((p1 + (h0 2 (xw a.2).toNat)) + 1) [h0]) else none)
 else (if xin a.2 11 then (
 if xw (h0 1 (xw a.2).toNat) ≤ xw p1 then (k65 (a.1, a.2))
 else (if xin a.2 11 then (
 if xw (h0 1 (xw a.2).toNat) ≥ xw a.1 then (k65 (a.1, a.2))
 else (if xin a.2 11 then (
 k65 ((h0 1 (xw a.2).toNat), a.2)) else none)) else none)) else none)) else none)
set_option maxRecDepth 100000 in
set_option maxHeartbeats 4000000 in
theorem rq_X3_endAt_5 (p1 : Int) (p2 : Int) (h0 : Ob) (k65 : XK) (a : Int × Int) : rg_X3_endAt_5 k65 (en_X3_endAt_5 p1 p2 h0 a) = mg_X3_endAt_5 p1 p2 h0 (fun b => k65 (en_X3_endAt_65 p1 p2 h0 b)) a := rfl
set_option maxRecDepth 100000 in
set_option maxHeartbeats 4000000 in
theorem sg_X3_endAt_5 {X : XDyn} {r0 : Rt} (C : XO X mX3_endAt) {k65 : XK} (q65 : XS X mX3_endAt r0 65 k65) : XS X mX3_endAt r0 5 (rg_X3_endAt_5 k65) := by
 unfold rg_X3_endAt_5
 exact s_iload (pc := 5) C dX3_endAt_5 <|
    s_bipush (pc := 7) C dX3_endAt_7 (by decide) <|
    s_icmp_ge (pc := 9) C dX3_endAt_9 (by decide) (s_iload_n (pc := 71) C dX3_endAt_71 rfl <|
    s_ireturn (pc := 72) C rfl dX3_endAt_72)
    (s_aload_n (pc := 12) C dX3_endAt_12 rfl <|
    s_get (pc := 13) C (ci := 3) (kf := 0) rfl inX3 (by decide) wd_99 dX3_endAt_13 <|
    s_iload (pc := 16) C dX3_endAt_16 <|
    s_iald (pc := 18) C dX3_endAt_18 <|
    s_iload_n (pc := 19) C dX3_endAt_19 rfl <|
    s_icmp_ne (pc := 20) C dX3_endAt_20 (by decide) (s_aload_n (pc := 35) C dX3_endAt_35 rfl <|
    s_get (pc := 36) C (ci := 3) (kf := 0) rfl inX3 (by decide) wd_99 dX3_endAt_36 <|
    s_iload (pc := 39) C dX3_endAt_39 <|
    s_iald (pc := 41) C dX3_endAt_41 <|
    s_iload_n (pc := 42) C dX3_endAt_42 rfl <|
    s_icmp_le (pc := 43) C dX3_endAt_43 (by decide) (s_cut q65)
    (s_aload_n (pc := 46) C dX3_endAt_46 rfl <|
    s_get (pc := 47) C (ci := 3) (kf := 0) rfl inX3 (by decide) wd_99 dX3_endAt_47 <|
    s_iload (pc := 50) C dX3_endAt_50 <|
    s_iald (pc := 52) C dX3_endAt_52 <|
    s_iload_n (pc := 53) C dX3_endAt_53 rfl <|
    s_icmp_ge (pc := 54) C dX3_endAt_54 (by decide) (s_cut q65)
    (s_aload_n (pc := 57) C dX3_endAt_57 rfl <|
    s_get (pc := 58) C (ci := 3) (kf := 0) rfl inX3 (by decide) wd_99 dX3_endAt_58 <|
    s_iload (pc := 61) C dX3_endAt_61 <|
    s_iald (pc := 63) C dX3_endAt_63 <|
    s_istore_n (pc := 64) C dX3_endAt_64 rfl <|
    s_cut q65)))
    (s_iload_n (pc := 23) C dX3_endAt_23 rfl <|
    s_aload_n (pc := 24) C dX3_endAt_24 rfl <|
    s_get (pc := 25) C (ci := 3) (kf := 1) rfl inX3 (by decide) wd_105 dX3_endAt_25 <|
    s_iload (pc := 28) C dX3_endAt_28 <|
    s_iald (pc := 30) C dX3_endAt_30 <|
    s_iadd (pc := 31) C dX3_endAt_31 <|
    s_iconst (pc := 32) C dX3_endAt_32 <|
    s_iadd (pc := 33) C dX3_endAt_33 <|
    s_ireturn (pc := 34) C rfl dX3_endAt_34))
def mg_X3_endAt_65 (p1 : Int) (p2 : Int) (h0 : Ob) (k5 : (Int × Int) → Option Rt) (a : Int × Int) : Option Rt :=
 k5 (a.1, (a.2 + 1))
set_option maxRecDepth 100000 in
set_option maxHeartbeats 4000000 in
theorem rq_X3_endAt_65 (p1 : Int) (p2 : Int) (h0 : Ob) (k5 : XK) (a : Int × Int) : rg_X3_endAt_65 k5 (en_X3_endAt_65 p1 p2 h0 a) = mg_X3_endAt_65 p1 p2 h0 (fun b => k5 (en_X3_endAt_5 p1 p2 h0 b)) a := rfl
set_option maxRecDepth 100000 in
set_option maxHeartbeats 4000000 in
theorem sg_X3_endAt_65 {X : XDyn} {r0 : Rt} (C : XO X mX3_endAt) {k5 : XK} (q5 : XS X mX3_endAt r0 5 k5) : XS X mX3_endAt r0 65 (rg_X3_endAt_65 k5) := by
 unfold rg_X3_endAt_65
 exact s_iinc (pc := 65) C dX3_endAt_65 <|
    s_goto (pc := 68) C dX3_endAt_68 (by decide) <|
    s_cut q5
def rw_X3_endAt_65 (f : Nat) (k5 : XK) : XK := rg_X3_endAt_65 k5
def md_X3_endAt_65 (p1 : Int) (p2 : Int) (h0 : Ob) (f : Nat) (k5 : (Int × Int) → Option Rt) : Int × Int → Option Rt := mg_X3_endAt_65 p1 p2 h0 k5
theorem eq_X3_endAt_65 (p1 : Int) (p2 : Int) (h0 : Ob) (f : Nat) (k5 : XK) (a : Int × Int) : rw_X3_endAt_65 f k5 (en_X3_endAt_65 p1 p2 h0 a) = md_X3_endAt_65 p1 p2 h0 f (fun b => k5 (en_X3_endAt_5 p1 p2 h0 b)) a :=
 (rq_X3_endAt_65 p1 p2 h0 k5 a).trans (congrFun (congr (rfl : mg_X3_endAt_65 p1 p2 h0 = mg_X3_endAt_65 p1 p2 h0) rfl) a)
theorem sd_X3_endAt_65 (f : Nat) {X : XDyn} {r0 : Rt} (C : XO X mX3_endAt) {k5 : XK} (q5 : XS X mX3_endAt r0 5 k5) : XS X mX3_endAt r0 65 (rw_X3_endAt_65 f k5) := sg_X3_endAt_65 C q5
def rw_X3_endAt_5 (f : Nat) : XK := tlp (fun k5 => rg_X3_endAt_5 (rw_X3_endAt_65 f k5)) f
def lb_X3_endAt_5 (p1 : Int) (p2 : Int) (h0 : Ob) (f : Nat) : ((Int × Int) → Option Rt) → Int × Int → Option Rt := fun k5 => mg_X3_endAt_5 p1 p2 h0 (md_X3_endAt_65 p1 p2 h0 f k5)
def md_X3_endAt_5 (p1 : Int) (p2 : Int) (h0 : Ob) (f : Nat) : Int × Int → Option Rt := tlp (lb_X3_endAt_5 p1 p2 h0 f) f
theorem eq_X3_endAt_5 (p1 : Int) (p2 : Int) (h0 : Ob) (f : Nat) (a : Int × Int) : rw_X3_endAt_5 f (en_X3_endAt_5 p1 p2 h0 a) = md_X3_endAt_5 p1 p2 h0 f a :=
 tlp_enc (en_X3_endAt_5 p1 p2 h0) (fun k5 a => (rq_X3_endAt_5 p1 p2 h0 (rw_X3_endAt_65 f k5) a).trans (congrFun (congr (rfl : mg_X3_endAt_5 p1 p2 h0 = mg_X3_endAt_5 p1 p2 h0) (funext (eq_X3_endAt_65 p1 p2 h0 f k5))) a)) f a
theorem sd_X3_endAt_5 (f : Nat) {X : XDyn} {r0 : Rt} (C : XO X mX3_endAt) : XS X mX3_endAt r0 5 (rw_X3_endAt_5 f) := s_lp (fun k5 q5 => sg_X3_endAt_5 C (sd_X3_endAt_65 f C q5)) f
def rw_X3_endAt_0 (f : Nat) : XK := rg_X3_endAt_0 (rw_X3_endAt_5 f)
def md_X3_endAt_0 (p1 : Int) (p2 : Int) (h0 : Ob) (f : Nat) : Unit → Option Rt := mg_X3_endAt_0 p1 p2 h0 (md_X3_endAt_5 p1 p2 h0 f)
theorem eq_X3_endAt_0 (p1 : Int) (p2 : Int) (h0 : Ob) (f : Nat) (a : Unit) : rw_X3_endAt_0 f (en_X3_endAt_0 p1 p2 h0 a) = md_X3_endAt_0 p1 p2 h0 f a :=
 (rq_X3_endAt_0 p1 p2 h0 (rw_X3_endAt_5 f) a).trans (congrFun (congr (rfl : mg_X3_endAt_0 p1 p2 h0 = mg_X3_endAt_0 p1 p2 h0) (funext (eq_X3_endAt_5 p1 p2 h0 f))) a)
theorem sd_X3_endAt_0 (f : Nat) {X : XDyn} {r0 : Rt} (C : XO X mX3_endAt) : XS X mX3_endAt r0 0 (rw_X3_endAt_0 f) := sg_X3_endAt_0 C (sd_X3_endAt_5 f C)
theorem ctr_X3_endAt (f : Nat) : XCt yX3_endAt mX3_endAt (xF mX3_endAt (rw_X3_endAt_0 f)) := xMet (by decide +kernel) rfl (fun _ _ C => sd_X3_endAt_0 f C)
theorem eqf_X3_endAt (f : Nat) (p1 : Int) (p2 : Int) (h0 : Ob) : xF mX3_endAt (rw_X3_endAt_0 f) [.inr (.inl (0, 0)), .inl p1, .inl p2] [h0] = md_X3_endAt_0 p1 p2 h0 f () := eq_X3_endAt_0 p1 p2 h0 f ()
theorem yi_X3_endAt : yX3_endAt.cls = RX3 ∧ yX3_endAt.cls ≠ "java/lang/invoke/MethodHandle" ∧ yX3_endAt.cls ≠ "java/lang/invoke/VarHandle" ∧ (parseMethodDescriptor yX3_endAt.desc).map (fun d => d.parameters.length) = some 2 := ⟨rfl, by decide +kernel, by decide +kernel, by decide +kernel⟩
theorem dX8_lays_0 : decode cX8_lays 0 = .ok (.iload_n 1, 1) := by decide +kernel
theorem dX8_lays_1 : decode cX8_lays 1 = .ok (.istore 4, 2) := by decide +kernel
theorem dX8_lays_3 : decode cX8_lays 3 = .ok (.iload 4, 2) := by decide +kernel
theorem dX8_lays_5 : decode cX8_lays 5 = .ok (.iload_n 1, 1) := by decide +kernel
theorem dX8_lays_6 : decode cX8_lays 6 = .ok (.iload_n 2, 1) := by decide +kernel
theorem dX8_lays_7 : decode cX8_lays 7 = .ok (.iadd, 1) := by decide +kernel
theorem dX8_lays_8 : decode cX8_lays 8 = .ok (.if_icmp .ge 17, 3) := by decide +kernel
theorem dX8_lays_11 : decode cX8_lays 11 = .ok (.aload_n 0, 1) := by decide +kernel
theorem dX8_lays_12 : decode cX8_lays 12 = .ok (.getfield 19, 3) := by decide +kernel
theorem dX8_lays_15 : decode cX8_lays 15 = .ok (.iload 4, 2) := by decide +kernel
theorem dX8_lays_17 : decode cX8_lays 17 = .ok (.iload_n 3, 1) := by decide +kernel
theorem dX8_lays_18 : decode cX8_lays 18 = .ok (.iastore, 1) := by decide +kernel
theorem dX8_lays_19 : decode cX8_lays 19 = .ok (.iinc 4 1, 3) := by decide +kernel
theorem dX8_lays_22 : decode cX8_lays 22 = .ok (.goto (-19), 3) := by decide +kernel
theorem dX8_lays_25 : decode cX8_lays 25 = .ok (.return_, 1) := by decide +kernel
abbrev mX8_lays : XM := (cX8_lays, 5, RX8, none, shw_8, 0)
def rg_X8_lays_0 (k3 : XK) : XK :=
 o_iload 1 <|
 o_istore 4 <|
 o_cut [] k3
def en_X8_lays_0 (p1 : Int) (p2 : Int) (p3 : Int) (a : Ob) : XSt := ([some (.inr (.inl (0, 0))), some (.inl p1), some (.inl p2), some (.inl p3), none], [], [a])
def rg_X8_lays_3 (k3 : XK) : XK :=
 o_iload 4 <|
 o_iload 1 <|
 o_iload 2 <|
 o_iadd <|
 o_icmp_ge (o_return)
 (o_aload 0 <|
 o_get shw_8 8 5 <|
 o_iload 4 <|
 o_iload 3 <|
 o_iast shw_8 <|
 o_iinc 4 1 <|
 o_cut [] k3)
def en_X8_lays_3 (p1 : Int) (p2 : Int) (p3 : Int) (a : Int × Ob) : XSt := ([some (.inr (.inl (0, 0))), some (.inl p1), some (.inl p2), some (.inl p3), some (.inl a.1)], [], [a.2])
def mg_X8_lays_0 (p1 : Int) (p2 : Int) (p3 : Int) (k3 : (Int × Ob) → Option Rt) (a : Ob) : Option Rt :=
 k3 (p1, a)
set_option maxRecDepth 100000 in
set_option maxHeartbeats 4000000 in
theorem rq_X8_lays_0 (p1 : Int) (p2 : Int) (p3 : Int) (k3 : XK) (a : Ob) : rg_X8_lays_0 k3 (en_X8_lays_0 p1 p2 p3 a) = mg_X8_lays_0 p1 p2 p3 (fun b => k3 (en_X8_lays_3 p1 p2 p3 b)) a := rfl
set_option maxRecDepth 100000 in
set_option maxHeartbeats 4000000 in
theorem sg_X8_lays_0 {X : XDyn} {r0 : Rt} (C : XO X mX8_lays) {k3 : XK} (q3 : XS X mX8_lays r0 3 k3) : XS X mX8_lays r0 0 (rg_X8_lays_0 k3) := by
 unfold rg_X8_lays_0
 exact s_iload_n (pc := 0) C dX8_lays_0 rfl <|
    s_istore (pc := 1) C dX8_lays_1 <|
    s_cut q3
def mg_X8_lays_3 (p1 : Int) (p2 : Int) (p3 : Int) (k3 : (Int × Ob) → Option Rt) (a : Int × Ob) : Option Rt :=
 if xw a.1 ≥ xw (p1 + p2) then (RV [a.2])
 else (if xin a.1 200 then (
 k3 ((a.1 + 1), (xset a.2 4 (xw a.1).toNat p3))) else none)
set_option maxRecDepth 100000 in
set_option maxHeartbeats 4000000 in
theorem rq_X8_lays_3 (p1 : Int) (p2 : Int) (p3 : Int) (k3 : XK) (a : Int × Ob) : rg_X8_lays_3 k3 (en_X8_lays_3 p1 p2 p3 a) = mg_X8_lays_3 p1 p2 p3 (fun b => k3 (en_X8_lays_3 p1 p2 p3 b)) a := rfl
set_option maxRecDepth 100000 in
set_option maxHeartbeats 4000000 in
theorem sg_X8_lays_3 {X : XDyn} {r0 : Rt} (C : XO X mX8_lays) {k3 : XK} (q3 : XS X mX8_lays r0 3 k3) : XS X mX8_lays r0 3 (rg_X8_lays_3 k3) := by
 unfold rg_X8_lays_3
 exact s_iload (pc := 3) C dX8_lays_3 <|
    s_iload_n (pc := 5) C dX8_lays_5 rfl <|
    s_iload_n (pc := 6) C dX8_lays_6 rfl <|
    s_iadd (pc := 7) C dX8_lays_7 <|
    s_icmp_ge (pc := 8) C dX8_lays_8 (by decide) (s_return (pc := 25) C rfl dX8_lays_25)
    (s_aload_n (pc := 11) C dX8_lays_11 rfl <|
    s_get (pc := 12) C (ci := 8) (kf := 5) rfl inX8 (by decide) wd_876 dX8_lays_12 <|
    s_iload (pc := 15) C dX8_lays_15 <|
    s_iload_n (pc := 17) C dX8_lays_17 rfl <|
    s_iast (pc := 18) C dX8_lays_18 <|
    s_iinc (pc := 19) C dX8_lays_19 <|
    s_goto (pc := 22) C dX8_lays_22 (by decide) <|
    s_cut q3)
def rw_X8_lays_3 (f : Nat) : XK := tlp (fun k3 => rg_X8_lays_3 k3) f
def lb_X8_lays_3 (p1 : Int) (p2 : Int) (p3 : Int) (f : Nat) : ((Int × Ob) → Option Rt) → Int × Ob → Option Rt := fun k3 => mg_X8_lays_3 p1 p2 p3 k3
def md_X8_lays_3 (p1 : Int) (p2 : Int) (p3 : Int) (f : Nat) : Int × Ob → Option Rt := tlp (lb_X8_lays_3 p1 p2 p3 f) f
theorem eq_X8_lays_3 (p1 : Int) (p2 : Int) (p3 : Int) (f : Nat) (a : Int × Ob) : rw_X8_lays_3 f (en_X8_lays_3 p1 p2 p3 a) = md_X8_lays_3 p1 p2 p3 f a :=
 tlp_enc (en_X8_lays_3 p1 p2 p3) (fun k3 a => (rq_X8_lays_3 p1 p2 p3 k3 a).trans (congrFun (congr (rfl : mg_X8_lays_3 p1 p2 p3 = mg_X8_lays_3 p1 p2 p3) rfl) a)) f a
theorem sd_X8_lays_3 (f : Nat) {X : XDyn} {r0 : Rt} (C : XO X mX8_lays) : XS X mX8_lays r0 3 (rw_X8_lays_3 f) := s_lp (fun k3 q3 => sg_X8_lays_3 C q3) f
def rw_X8_lays_0 (f : Nat) : XK := rg_X8_lays_0 (rw_X8_lays_3 f)
def md_X8_lays_0 (p1 : Int) (p2 : Int) (p3 : Int) (f : Nat) : Ob → Option Rt := mg_X8_lays_0 p1 p2 p3 (md_X8_lays_3 p1 p2 p3 f)
theorem eq_X8_lays_0 (p1 : Int) (p2 : Int) (p3 : Int) (f : Nat) (a : Ob) : rw_X8_lays_0 f (en_X8_lays_0 p1 p2 p3 a) = md_X8_lays_0 p1 p2 p3 f a :=
 (rq_X8_lays_0 p1 p2 p3 (rw_X8_lays_3 f) a).trans (congrFun (congr (rfl : mg_X8_lays_0 p1 p2 p3 = mg_X8_lays_0 p1 p2 p3) (funext (eq_X8_lays_3 p1 p2 p3 f))) a)
theorem sd_X8_lays_0 (f : Nat) {X : XDyn} {r0 : Rt} (C : XO X mX8_lays) : XS X mX8_lays r0 0 (rw_X8_lays_0 f) := sg_X8_lays_0 C (sd_X8_lays_3 f C)
theorem ctr_X8_lays (f : Nat) : XCt yX8_lays mX8_lays (xF mX8_lays (rw_X8_lays_0 f)) := xMet (by decide +kernel) rfl (fun _ _ C => sd_X8_lays_0 f C)
theorem eqf_X8_lays (f : Nat) (p1 : Int) (p2 : Int) (p3 : Int) (h0 : Ob) : xF mX8_lays (rw_X8_lays_0 f) [.inr (.inl (0, 0)), .inl p1, .inl p2, .inl p3] [h0] = md_X8_lays_0 p1 p2 p3 f h0 := eq_X8_lays_0 p1 p2 p3 f h0
theorem yi_X8_lays : yX8_lays.cls = RX8 ∧ yX8_lays.cls ≠ "java/lang/invoke/MethodHandle" ∧ yX8_lays.cls ≠ "java/lang/invoke/VarHandle" ∧ (parseMethodDescriptor yX8_lays.desc).map (fun d => d.parameters.length) = some 3 := ⟨rfl, by decide +kernel, by decide +kernel, by decide +kernel⟩
theorem dX8_behind_0 : decode cX8_behind 0 = .ok (.iload_n 1, 1) := by decide +kernel
theorem dX8_behind_1 : decode cX8_behind 1 = .ok (.istore_n 2, 1) := by decide +kernel
theorem dX8_behind_2 : decode cX8_behind 2 = .ok (.iload_n 2, 1) := by decide +kernel
theorem dX8_behind_3 : decode cX8_behind 3 = .ok (.aload_n 0, 1) := by decide +kernel
theorem dX8_behind_4 : decode cX8_behind 4 = .ok (.getfield 7, 3) := by decide +kernel
theorem dX8_behind_7 : decode cX8_behind 7 = .ok (.iconst 0, 1) := by decide +kernel
theorem dX8_behind_8 : decode cX8_behind 8 = .ok (.iaload, 1) := by decide +kernel
theorem dX8_behind_9 : decode cX8_behind 9 = .ok (.if_icmp .ge 24, 3) := by decide +kernel
theorem dX8_behind_12 : decode cX8_behind 12 = .ok (.aload_n 0, 1) := by decide +kernel
theorem dX8_behind_13 : decode cX8_behind 13 = .ok (.getfield 19, 3) := by decide +kernel
theorem dX8_behind_16 : decode cX8_behind 16 = .ok (.iload_n 2, 1) := by decide +kernel
theorem dX8_behind_17 : decode cX8_behind 17 = .ok (.iaload, 1) := by decide +kernel
theorem dX8_behind_18 : decode cX8_behind 18 = .ok (.aload_n 0, 1) := by decide +kernel
theorem dX8_behind_19 : decode cX8_behind 19 = .ok (.getfield 19, 3) := by decide +kernel
theorem dX8_behind_22 : decode cX8_behind 22 = .ok (.iload_n 1, 1) := by decide +kernel
theorem dX8_behind_23 : decode cX8_behind 23 = .ok (.iaload, 1) := by decide +kernel
theorem dX8_behind_24 : decode cX8_behind 24 = .ok (.if_icmp .ne 9, 3) := by decide +kernel
theorem dX8_behind_27 : decode cX8_behind 27 = .ok (.iinc 2 1, 3) := by decide +kernel
theorem dX8_behind_30 : decode cX8_behind 30 = .ok (.goto (-28), 3) := by decide +kernel
theorem dX8_behind_33 : decode cX8_behind 33 = .ok (.iload_n 2, 1) := by decide +kernel
theorem dX8_behind_34 : decode cX8_behind 34 = .ok (.ireturn, 1) := by decide +kernel
abbrev mX8_behind : XM := (cX8_behind, 3, RX8, (some .int), shw_8, 0)
def rg_X8_behind_0 (k2 : XK) : XK :=
 o_iload 1 <|
 o_istore 2 <|
 o_cut [] k2
def en_X8_behind_0 (p1 : Int) (h0 : Ob) (a : Unit) : XSt := ([some (.inr (.inl (0, 0))), some (.inl p1), none], [], [h0])
def rg_X8_behind_2 (k2 : XK) : XK :=
 o_iload 2 <|
 o_aload 0 <|
 o_get shw_8 8 0 <|
 o_iconst 0 <|
 o_iald shw_8 <|
 o_icmp_ge (o_iload 2 <|
 o_ireturn)
 (o_aload 0 <|
 o_get shw_8 8 5 <|
 o_iload 2 <|
 o_iald shw_8 <|
 o_aload 0 <|
 o_get shw_8 8 5 <|
 o_iload 1 <|
 o_iald shw_8 <|
 o_icmp_ne (o_iload 2 <|
 o_ireturn)
 (o_iinc 2 1 <|
 o_cut [] k2))
def en_X8_behind_2 (p1 : Int) (h0 : Ob) (a : Int) : XSt := ([some (.inr (.inl (0, 0))), some (.inl p1), some (.inl a)], [], [h0])
def mg_X8_behind_0 (p1 : Int) (h0 : Ob) (k2 : Int → Option Rt) (a : Unit) : Option Rt :=
 k2 p1
set_option maxRecDepth 100000 in
set_option maxHeartbeats 4000000 in
theorem rq_X8_behind_0 (p1 : Int) (h0 : Ob) (k2 : XK) (a : Unit) : rg_X8_behind_0 k2 (en_X8_behind_0 p1 h0 a) = mg_X8_behind_0 p1 h0 (fun b => k2 (en_X8_behind_2 p1 h0 b)) a := rfl
set_option maxRecDepth 100000 in
set_option maxHeartbeats 4000000 in
theorem sg_X8_behind_0 {X : XDyn} {r0 : Rt} (C : XO X mX8_behind) {k2 : XK} (q2 : XS X mX8_behind r0 2 k2) : XS X mX8_behind r0 0 (rg_X8_behind_0 k2) := by
 unfold rg_X8_behind_0
 exact s_iload_n (pc := 0) C dX8_behind_0 rfl <|
    s_istore_n (pc := 1) C dX8_behind_1 rfl <|
    s_cut q2
def mg_X8_behind_2 (p1 : Int) (h0 : Ob) (k2 : Int → Option Rt) (a : Int) : Option Rt :=
 if xw a ≥ xw (h0 1 0) then (RI a [h0])
 else (if xin a 200 then (
 if xin p1 200 then (
 if xw (h0 4 (xw a).toNat) = xw (h0 4 (xw p1).toNat) then (k2 (a + 1))
 else (RI a [h0])) else none) else none)
set_option maxRecDepth 100000 in
set_option maxHeartbeats 4000000 in
theorem rq_X8_behind_2 (p1 : Int) (h0 : Ob) (k2 : XK) (a : Int) : rg_X8_behind_2 k2 (en_X8_behind_2 p1 h0 a) = mg_X8_behind_2 p1 h0 (fun b => k2 (en_X8_behind_2 p1 h0 b)) a := rfl
set_option maxRecDepth 100000 in
set_option maxHeartbeats 4000000 in
theorem sg_X8_behind_2 {X : XDyn} {r0 : Rt} (C : XO X mX8_behind) {k2 : XK} (q2 : XS X mX8_behind r0 2 k2) : XS X mX8_behind r0 2 (rg_X8_behind_2 k2) := by
 unfold rg_X8_behind_2
 exact s_iload_n (pc := 2) C dX8_behind_2 rfl <|
    s_aload_n (pc := 3) C dX8_behind_3 rfl <|
    s_get (pc := 4) C (ci := 8) (kf := 0) rfl inX8 (by decide) wd_871 dX8_behind_4 <|
    s_iconst (pc := 7) C dX8_behind_7 <|
    s_iald (pc := 8) C dX8_behind_8 <|
    s_icmp_ge (pc := 9) C dX8_behind_9 (by decide) (s_iload_n (pc := 33) C dX8_behind_33 rfl <|
    s_ireturn (pc := 34) C rfl dX8_behind_34)
    (s_aload_n (pc := 12) C dX8_behind_12 rfl <|
    s_get (pc := 13) C (ci := 8) (kf := 5) rfl inX8 (by decide) wd_876 dX8_behind_13 <|
    s_iload_n (pc := 16) C dX8_behind_16 rfl <|
    s_iald (pc := 17) C dX8_behind_17 <|
    s_aload_n (pc := 18) C dX8_behind_18 rfl <|
    s_get (pc := 19) C (ci := 8) (kf := 5) rfl inX8 (by decide) wd_876 dX8_behind_19 <|
    s_iload_n (pc := 22) C dX8_behind_22 rfl <|
    s_iald (pc := 23) C dX8_behind_23 <|
    s_icmp_ne (pc := 24) C dX8_behind_24 (by decide) (s_iload_n (pc := 33) C dX8_behind_33 rfl <|
    s_ireturn (pc := 34) C rfl dX8_behind_34)
    (s_iinc (pc := 27) C dX8_behind_27 <|
    s_goto (pc := 30) C dX8_behind_30 (by decide) <|
    s_cut q2))
def rw_X8_behind_2 (f : Nat) : XK := tlp (fun k2 => rg_X8_behind_2 k2) f
def lb_X8_behind_2 (p1 : Int) (h0 : Ob) (f : Nat) : ((Int) → Option Rt) → Int → Option Rt := fun k2 => mg_X8_behind_2 p1 h0 k2
def md_X8_behind_2 (p1 : Int) (h0 : Ob) (f : Nat) : Int → Option Rt := tlp (lb_X8_behind_2 p1 h0 f) f
theorem eq_X8_behind_2 (p1 : Int) (h0 : Ob) (f : Nat) (a : Int) : rw_X8_behind_2 f (en_X8_behind_2 p1 h0 a) = md_X8_behind_2 p1 h0 f a :=
 tlp_enc (en_X8_behind_2 p1 h0) (fun k2 a => (rq_X8_behind_2 p1 h0 k2 a).trans (congrFun (congr (rfl : mg_X8_behind_2 p1 h0 = mg_X8_behind_2 p1 h0) rfl) a)) f a
theorem sd_X8_behind_2 (f : Nat) {X : XDyn} {r0 : Rt} (C : XO X mX8_behind) : XS X mX8_behind r0 2 (rw_X8_behind_2 f) := s_lp (fun k2 q2 => sg_X8_behind_2 C q2) f
def rw_X8_behind_0 (f : Nat) : XK := rg_X8_behind_0 (rw_X8_behind_2 f)
def md_X8_behind_0 (p1 : Int) (h0 : Ob) (f : Nat) : Unit → Option Rt := mg_X8_behind_0 p1 h0 (md_X8_behind_2 p1 h0 f)
theorem eq_X8_behind_0 (p1 : Int) (h0 : Ob) (f : Nat) (a : Unit) : rw_X8_behind_0 f (en_X8_behind_0 p1 h0 a) = md_X8_behind_0 p1 h0 f a :=
 (rq_X8_behind_0 p1 h0 (rw_X8_behind_2 f) a).trans (congrFun (congr (rfl : mg_X8_behind_0 p1 h0 = mg_X8_behind_0 p1 h0) (funext (eq_X8_behind_2 p1 h0 f))) a)
theorem sd_X8_behind_0 (f : Nat) {X : XDyn} {r0 : Rt} (C : XO X mX8_behind) : XS X mX8_behind r0 0 (rw_X8_behind_0 f) := sg_X8_behind_0 C (sd_X8_behind_2 f C)
theorem ctr_X8_behind (f : Nat) : XCt yX8_behind mX8_behind (xF mX8_behind (rw_X8_behind_0 f)) := xMet (by decide +kernel) rfl (fun _ _ C => sd_X8_behind_0 f C)
theorem eqf_X8_behind (f : Nat) (p1 : Int) (h0 : Ob) : xF mX8_behind (rw_X8_behind_0 f) [.inr (.inl (0, 0)), .inl p1] [h0] = md_X8_behind_0 p1 h0 f () := eq_X8_behind_0 p1 h0 f ()
theorem yi_X8_behind : yX8_behind.cls = RX8 ∧ yX8_behind.cls ≠ "java/lang/invoke/MethodHandle" ∧ yX8_behind.cls ≠ "java/lang/invoke/VarHandle" ∧ (parseMethodDescriptor yX8_behind.desc).map (fun d => d.parameters.length) = some 1 := ⟨rfl, by decide +kernel, by decide +kernel, by decide +kernel⟩
theorem dX8_clearsContents_0 : decode cX8_clearsContents 0 = .ok (.iload_n 2, 1) := by decide +kernel
theorem dX8_clearsContents_1 : decode cX8_clearsContents 1 = .ok (.istore 4, 2) := by decide +kernel
theorem dX8_clearsContents_3 : decode cX8_clearsContents 3 = .ok (.iload 4, 2) := by decide +kernel
theorem dX8_clearsContents_5 : decode cX8_clearsContents 5 = .ok (.iload_n 3, 1) := by decide +kernel
theorem dX8_clearsContents_6 : decode cX8_clearsContents 6 = .ok (.if_icmp .ge 25, 3) := by decide +kernel
theorem dX8_clearsContents_9 : decode cX8_clearsContents 9 = .ok (.aload_n 0, 1) := by decide +kernel
theorem dX8_clearsContents_10 : decode cX8_clearsContents 10 = .ok (.getfield 7, 3) := by decide +kernel
theorem dX8_clearsContents_13 : decode cX8_clearsContents 13 = .ok (.bipush 75, 2) := by decide +kernel
theorem dX8_clearsContents_15 : decode cX8_clearsContents 15 = .ok (.bipush 60, 2) := by decide +kernel
theorem dX8_clearsContents_17 : decode cX8_clearsContents 17 = .ok (.iload_n 1, 1) := by decide +kernel
theorem dX8_clearsContents_18 : decode cX8_clearsContents 18 = .ok (.imul, 1) := by decide +kernel
theorem dX8_clearsContents_19 : decode cX8_clearsContents 19 = .ok (.iadd, 1) := by decide +kernel
theorem dX8_clearsContents_20 : decode cX8_clearsContents 20 = .ok (.iload 4, 2) := by decide +kernel
theorem dX8_clearsContents_22 : decode cX8_clearsContents 22 = .ok (.iadd, 1) := by decide +kernel
theorem dX8_clearsContents_23 : decode cX8_clearsContents 23 = .ok (.iconst 0, 1) := by decide +kernel
theorem dX8_clearsContents_24 : decode cX8_clearsContents 24 = .ok (.iastore, 1) := by decide +kernel
theorem dX8_clearsContents_25 : decode cX8_clearsContents 25 = .ok (.iinc 4 1, 3) := by decide +kernel
theorem dX8_clearsContents_28 : decode cX8_clearsContents 28 = .ok (.goto (-25), 3) := by decide +kernel
theorem dX8_clearsContents_31 : decode cX8_clearsContents 31 = .ok (.return_, 1) := by decide +kernel
abbrev mX8_clearsContents : XM := (cX8_clearsContents, 5, RX8, none, shw_8, 0)
def rg_X8_clearsContents_0 (k3 : XK) : XK :=
 o_iload 2 <|
 o_istore 4 <|
 o_cut [] k3
def en_X8_clearsContents_0 (p1 : Int) (p2 : Int) (p3 : Int) (a : Ob) : XSt := ([some (.inr (.inl (0, 0))), some (.inl p1), some (.inl p2), some (.inl p3), none], [], [a])
def rg_X8_clearsContents_3 (k3 : XK) : XK :=
 o_iload 4 <|
 o_iload 3 <|
 o_icmp_ge (o_return)
 (o_aload 0 <|
 o_get shw_8 8 0 <|
 o_iconst 75 <|
 o_iconst 60 <|
 o_iload 1 <|
 o_imul <|
 o_iadd <|
 o_iload 4 <|
 o_iadd <|
 o_iconst 0 <|
 o_iast shw_8 <|
 o_iinc 4 1 <|
 o_cut [] k3)
def en_X8_clearsContents_3 (p1 : Int) (p2 : Int) (p3 : Int) (a : Int × Ob) : XSt := ([some (.inr (.inl (0, 0))), some (.inl p1), some (.inl p2), some (.inl p3), some (.inl a.1)], [], [a.2])
def mg_X8_clearsContents_0 (p1 : Int) (p2 : Int) (p3 : Int) (k3 : (Int × Ob) → Option Rt) (a : Ob) : Option Rt :=
 k3 (p2, a)
set_option maxRecDepth 100000 in
set_option maxHeartbeats 4000000 in
theorem rq_X8_clearsContents_0 (p1 : Int) (p2 : Int) (p3 : Int) (k3 : XK) (a : Ob) : rg_X8_clearsContents_0 k3 (en_X8_clearsContents_0 p1 p2 p3 a) = mg_X8_clearsContents_0 p1 p2 p3 (fun b => k3 (en_X8_clearsContents_3 p1 p2 p3 b)) a := rfl
set_option maxRecDepth 100000 in
set_option maxHeartbeats 4000000 in
theorem sg_X8_clearsContents_0 {X : XDyn} {r0 : Rt} (C : XO X mX8_clearsContents) {k3 : XK} (q3 : XS X mX8_clearsContents r0 3 k3) : XS X mX8_clearsContents r0 0 (rg_X8_clearsContents_0 k3) := by
 unfold rg_X8_clearsContents_0
 exact s_iload_n (pc := 0) C dX8_clearsContents_0 rfl <|
    s_istore (pc := 1) C dX8_clearsContents_1 <|
    s_cut q3
def mg_X8_clearsContents_3 (p1 : Int) (p2 : Int) (p3 : Int) (k3 : (Int × Ob) → Option Rt) (a : Int × Ob) : Option Rt :=
 if xw a.1 ≥ xw p3 then (RV [a.2])
 else (if xin ((75 + (60 * p1)) + a.1) 735 then (
 k3 ((a.1 + 1), (xset a.2 1 (xw ((75 + (60 * p1)) + a.1)).toNat 0))) else none)
set_option maxRecDepth 100000 in
set_option maxHeartbeats 4000000 in
theorem rq_X8_clearsContents_3 (p1 : Int) (p2 : Int) (p3 : Int) (k3 : XK) (a : Int × Ob) : rg_X8_clearsContents_3 k3 (en_X8_clearsContents_3 p1 p2 p3 a) = mg_X8_clearsContents_3 p1 p2 p3 (fun b => k3 (en_X8_clearsContents_3 p1 p2 p3 b)) a := rfl
set_option maxRecDepth 100000 in
set_option maxHeartbeats 4000000 in
theorem sg_X8_clearsContents_3 {X : XDyn} {r0 : Rt} (C : XO X mX8_clearsContents) {k3 : XK} (q3 : XS X mX8_clearsContents r0 3 k3) : XS X mX8_clearsContents r0 3 (rg_X8_clearsContents_3 k3) := by
 unfold rg_X8_clearsContents_3
 exact s_iload (pc := 3) C dX8_clearsContents_3 <|
    s_iload_n (pc := 5) C dX8_clearsContents_5 rfl <|
    s_icmp_ge (pc := 6) C dX8_clearsContents_6 (by decide) (s_return (pc := 31) C rfl dX8_clearsContents_31)
    (s_aload_n (pc := 9) C dX8_clearsContents_9 rfl <|
    s_get (pc := 10) C (ci := 8) (kf := 0) rfl inX8 (by decide) wd_871 dX8_clearsContents_10 <|
    s_bipush (pc := 13) C dX8_clearsContents_13 (by decide) <|
    s_bipush (pc := 15) C dX8_clearsContents_15 (by decide) <|
    s_iload_n (pc := 17) C dX8_clearsContents_17 rfl <|
    s_imul (pc := 18) C dX8_clearsContents_18 <|
    s_iadd (pc := 19) C dX8_clearsContents_19 <|
    s_iload (pc := 20) C dX8_clearsContents_20 <|
    s_iadd (pc := 22) C dX8_clearsContents_22 <|
    s_iconst (pc := 23) C dX8_clearsContents_23 <|
    s_iast (pc := 24) C dX8_clearsContents_24 <|
    s_iinc (pc := 25) C dX8_clearsContents_25 <|
    s_goto (pc := 28) C dX8_clearsContents_28 (by decide) <|
    s_cut q3)
def rw_X8_clearsContents_3 (f : Nat) : XK := tlp (fun k3 => rg_X8_clearsContents_3 k3) f
def lb_X8_clearsContents_3 (p1 : Int) (p2 : Int) (p3 : Int) (f : Nat) : ((Int × Ob) → Option Rt) → Int × Ob → Option Rt := fun k3 => mg_X8_clearsContents_3 p1 p2 p3 k3
def md_X8_clearsContents_3 (p1 : Int) (p2 : Int) (p3 : Int) (f : Nat) : Int × Ob → Option Rt := tlp (lb_X8_clearsContents_3 p1 p2 p3 f) f
theorem eq_X8_clearsContents_3 (p1 : Int) (p2 : Int) (p3 : Int) (f : Nat) (a : Int × Ob) : rw_X8_clearsContents_3 f (en_X8_clearsContents_3 p1 p2 p3 a) = md_X8_clearsContents_3 p1 p2 p3 f a :=
 tlp_enc (en_X8_clearsContents_3 p1 p2 p3) (fun k3 a => (rq_X8_clearsContents_3 p1 p2 p3 k3 a).trans (congrFun (congr (rfl : mg_X8_clearsContents_3 p1 p2 p3 = mg_X8_clearsContents_3 p1 p2 p3) rfl) a)) f a
theorem sd_X8_clearsContents_3 (f : Nat) {X : XDyn} {r0 : Rt} (C : XO X mX8_clearsContents) : XS X mX8_clearsContents r0 3 (rw_X8_clearsContents_3 f) := s_lp (fun k3 q3 => sg_X8_clearsContents_3 C q3) f
def rw_X8_clearsContents_0 (f : Nat) : XK := rg_X8_clearsContents_0 (rw_X8_clearsContents_3 f)
def md_X8_clearsContents_0 (p1 : Int) (p2 : Int) (p3 : Int) (f : Nat) : Ob → Option Rt := mg_X8_clearsContents_0 p1 p2 p3 (md_X8_clearsContents_3 p1 p2 p3 f)
theorem eq_X8_clearsContents_0 (p1 : Int) (p2 : Int) (p3 : Int) (f : Nat) (a : Ob) : rw_X8_clearsContents_0 f (en_X8_clearsContents_0 p1 p2 p3 a) = md_X8_clearsContents_0 p1 p2 p3 f a :=
 (rq_X8_clearsContents_0 p1 p2 p3 (rw_X8_clearsContents_3 f) a).trans (congrFun (congr (rfl : mg_X8_clearsContents_0 p1 p2 p3 = mg_X8_clearsContents_0 p1 p2 p3) (funext (eq_X8_clearsContents_3 p1 p2 p3 f))) a)
theorem sd_X8_clearsContents_0 (f : Nat) {X : XDyn} {r0 : Rt} (C : XO X mX8_clearsContents) : XS X mX8_clearsContents r0 0 (rw_X8_clearsContents_0 f) := sg_X8_clearsContents_0 C (sd_X8_clearsContents_3 f C)
theorem ctr_X8_clearsContents (f : Nat) : XCt yX8_clearsContents mX8_clearsContents (xF mX8_clearsContents (rw_X8_clearsContents_0 f)) := xMet (by decide +kernel) rfl (fun _ _ C => sd_X8_clearsContents_0 f C)
theorem eqf_X8_clearsContents (f : Nat) (p1 : Int) (p2 : Int) (p3 : Int) (h0 : Ob) : xF mX8_clearsContents (rw_X8_clearsContents_0 f) [.inr (.inl (0, 0)), .inl p1, .inl p2, .inl p3] [h0] = md_X8_clearsContents_0 p1 p2 p3 f h0 := eq_X8_clearsContents_0 p1 p2 p3 f h0
theorem yi_X8_clearsContents : yX8_clearsContents.cls = RX8 ∧ yX8_clearsContents.cls ≠ "java/lang/invoke/MethodHandle" ∧ yX8_clearsContents.cls ≠ "java/lang/invoke/VarHandle" ∧ (parseMethodDescriptor yX8_clearsContents.desc).map (fun d => d.parameters.length) = some 3 := ⟨rfl, by decide +kernel, by decide +kernel, by decide +kernel⟩
theorem dX3_begin_0 : decode cX3_begin 0 = .ok (.iconst 0, 1) := by decide +kernel
theorem dX3_begin_1 : decode cX3_begin 1 = .ok (.istore_n 3, 1) := by decide +kernel
theorem dX3_begin_2 : decode cX3_begin 2 = .ok (.iload_n 3, 1) := by decide +kernel
theorem dX3_begin_3 : decode cX3_begin 3 = .ok (.bipush 11, 2) := by decide +kernel
theorem dX3_begin_5 : decode cX3_begin 5 = .ok (.if_icmp .ge 16, 3) := by decide +kernel
theorem dX3_begin_8 : decode cX3_begin 8 = .ok (.aload_n 0, 1) := by decide +kernel
theorem dX3_begin_9 : decode cX3_begin 9 = .ok (.getfield 9, 3) := by decide +kernel
theorem dX3_begin_12 : decode cX3_begin 12 = .ok (.iload_n 3, 1) := by decide +kernel
theorem dX3_begin_13 : decode cX3_begin 13 = .ok (.iconst (-1), 1) := by decide +kernel
theorem dX3_begin_14 : decode cX3_begin 14 = .ok (.iastore, 1) := by decide +kernel
theorem dX3_begin_15 : decode cX3_begin 15 = .ok (.iinc 3 1, 3) := by decide +kernel
theorem dX3_begin_18 : decode cX3_begin 18 = .ok (.goto (-16), 3) := by decide +kernel
theorem dX3_begin_21 : decode cX3_begin 21 = .ok (.iconst 0, 1) := by decide +kernel
theorem dX3_begin_22 : decode cX3_begin 22 = .ok (.istore_n 3, 1) := by decide +kernel
theorem dX3_begin_23 : decode cX3_begin 23 = .ok (.iload_n 3, 1) := by decide +kernel
theorem dX3_begin_24 : decode cX3_begin 24 = .ok (.bipush 8, 2) := by decide +kernel
theorem dX3_begin_26 : decode cX3_begin 26 = .ok (.if_icmp .ge 16, 3) := by decide +kernel
theorem dX3_begin_29 : decode cX3_begin 29 = .ok (.aload_n 0, 1) := by decide +kernel
theorem dX3_begin_30 : decode cX3_begin 30 = .ok (.getfield 21, 3) := by decide +kernel
theorem dX3_begin_33 : decode cX3_begin 33 = .ok (.iload_n 3, 1) := by decide +kernel
theorem dX3_begin_34 : decode cX3_begin 34 = .ok (.iconst 0, 1) := by decide +kernel
theorem dX3_begin_35 : decode cX3_begin 35 = .ok (.iastore, 1) := by decide +kernel
theorem dX3_begin_36 : decode cX3_begin 36 = .ok (.iinc 3 1, 3) := by decide +kernel
theorem dX3_begin_39 : decode cX3_begin 39 = .ok (.goto (-16), 3) := by decide +kernel
theorem dX3_begin_42 : decode cX3_begin 42 = .ok (.aload_n 0, 1) := by decide +kernel
theorem dX3_begin_43 : decode cX3_begin 43 = .ok (.iconst 0, 1) := by decide +kernel
theorem dX3_begin_44 : decode cX3_begin 44 = .ok (.putfield 33, 3) := by decide +kernel
theorem dX3_begin_47 : decode cX3_begin 47 = .ok (.aload_n 0, 1) := by decide +kernel
theorem dX3_begin_48 : decode cX3_begin 48 = .ok (.iconst 0, 1) := by decide +kernel
theorem dX3_begin_49 : decode cX3_begin 49 = .ok (.putfield 37, 3) := by decide +kernel
theorem dX3_begin_52 : decode cX3_begin 52 = .ok (.aload_n 0, 1) := by decide +kernel
theorem dX3_begin_53 : decode cX3_begin 53 = .ok (.iload_n 1, 1) := by decide +kernel
theorem dX3_begin_54 : decode cX3_begin 54 = .ok (.putfield 40, 3) := by decide +kernel
theorem dX3_begin_57 : decode cX3_begin 57 = .ok (.aload_n 0, 1) := by decide +kernel
theorem dX3_begin_58 : decode cX3_begin 58 = .ok (.iload_n 2, 1) := by decide +kernel
theorem dX3_begin_59 : decode cX3_begin 59 = .ok (.putfield 43, 3) := by decide +kernel
theorem dX3_begin_62 : decode cX3_begin 62 = .ok (.aload_n 0, 1) := by decide +kernel
theorem dX3_begin_63 : decode cX3_begin 63 = .ok (.iconst 0, 1) := by decide +kernel
theorem dX3_begin_64 : decode cX3_begin 64 = .ok (.putfield 46, 3) := by decide +kernel
theorem dX3_begin_67 : decode cX3_begin 67 = .ok (.aload_n 0, 1) := by decide +kernel
theorem dX3_begin_68 : decode cX3_begin 68 = .ok (.iconst 0, 1) := by decide +kernel
theorem dX3_begin_69 : decode cX3_begin 69 = .ok (.putfield 49, 3) := by decide +kernel
theorem dX3_begin_72 : decode cX3_begin 72 = .ok (.aload_n 0, 1) := by decide +kernel
theorem dX3_begin_73 : decode cX3_begin 73 = .ok (.iconst 0, 1) := by decide +kernel
theorem dX3_begin_74 : decode cX3_begin 74 = .ok (.putfield 52, 3) := by decide +kernel
theorem dX3_begin_77 : decode cX3_begin 77 = .ok (.return_, 1) := by decide +kernel
abbrev mX3_begin : XM := (cX3_begin, 4, RX3, none, shw_3, 0)
def rg_X3_begin_0 (k2 : XK) : XK :=
 o_iconst 0 <|
 o_istore 3 <|
 o_cut [] k2
def en_X3_begin_0 (p1 : Int) (p2 : Int) (a : Ob) : XSt := ([some (.inr (.inl (0, 0))), some (.inl p1), some (.inl p2), none], [], [a])
def rg_X3_begin_2 (k23 : XK) (k2 : XK) : XK :=
 o_iload 3 <|
 o_iconst 11 <|
 o_icmp_ge (o_iconst 0 <|
 o_istore 3 <|
 o_cut [] k23)
 (o_aload 0 <|
 o_get shw_3 3 0 <|
 o_iload 3 <|
 o_iconst (-1) <|
 o_iast shw_3 <|
 o_iinc 3 1 <|
 o_cut [] k2)
def en_X3_begin_2 (p1 : Int) (p2 : Int) (a : Int × Ob) : XSt := ([some (.inr (.inl (0, 0))), some (.inl p1), some (.inl p2), some (.inl a.1)], [], [a.2])
def rg_X3_begin_23 (k23 : XK) : XK :=
 o_iload 3 <|
 o_iconst 8 <|
 o_icmp_ge (o_aload 0 <|
 o_iconst 0 <|
 o_put shw_3 3 7 false <|
 o_aload 0 <|
 o_iconst 0 <|
 o_put shw_3 3 8 false <|
 o_aload 0 <|
 o_iload 1 <|
 o_put shw_3 3 9 false <|
 o_aload 0 <|
 o_iload 2 <|
 o_put shw_3 3 10 false <|
 o_aload 0 <|
 o_iconst 0 <|
 o_put shw_3 3 11 false <|
 o_aload 0 <|
 o_iconst 0 <|
 o_put shw_3 3 12 false <|
 o_aload 0 <|
 o_iconst 0 <|
 o_put shw_3 3 13 false <|
 o_return)
 (o_aload 0 <|
 o_get shw_3 3 3 <|
 o_iload 3 <|
 o_iconst 0 <|
 o_iast shw_3 <|
 o_iinc 3 1 <|
 o_cut [] k23)
def en_X3_begin_23 (p1 : Int) (p2 : Int) (a : Int × Ob) : XSt := ([some (.inr (.inl (0, 0))), some (.inl p1), some (.inl p2), some (.inl a.1)], [], [a.2])
def mg_X3_begin_0 (p1 : Int) (p2 : Int) (k2 : (Int × Ob) → Option Rt) (a : Ob) : Option Rt :=
 k2 (0, a)
set_option maxRecDepth 100000 in
set_option maxHeartbeats 4000000 in
theorem rq_X3_begin_0 (p1 : Int) (p2 : Int) (k2 : XK) (a : Ob) : rg_X3_begin_0 k2 (en_X3_begin_0 p1 p2 a) = mg_X3_begin_0 p1 p2 (fun b => k2 (en_X3_begin_2 p1 p2 b)) a := rfl
set_option maxRecDepth 100000 in
set_option maxHeartbeats 4000000 in
theorem sg_X3_begin_0 {X : XDyn} {r0 : Rt} (C : XO X mX3_begin) {k2 : XK} (q2 : XS X mX3_begin r0 2 k2) : XS X mX3_begin r0 0 (rg_X3_begin_0 k2) := by
 unfold rg_X3_begin_0
 exact s_iconst (pc := 0) C dX3_begin_0 <|
    s_istore_n (pc := 1) C dX3_begin_1 rfl <|
    s_cut q2
def mg_X3_begin_2 (p1 : Int) (p2 : Int) (k23 : (Int × Ob) → Option Rt) (k2 : (Int × Ob) → Option Rt) (a : Int × Ob) : Option Rt :=
 if xw a.1 ≥ 11 then (k23 (0, a.2))
 else (if xin a.1 11 then (
 k2 ((a.1 + 1), (xset a.2 1 (xw a.1).toNat (-1)))) else none)
set_option maxRecDepth 100000 in
set_option maxHeartbeats 4000000 in
theorem rq_X3_begin_2 (p1 : Int) (p2 : Int) (k23 : XK) (k2 : XK) (a : Int × Ob) : rg_X3_begin_2 k23 k2 (en_X3_begin_2 p1 p2 a) = mg_X3_begin_2 p1 p2 (fun b => k23 (en_X3_begin_23 p1 p2 b)) (fun b => k2 (en_X3_begin_2 p1 p2 b)) a := rfl
set_option maxRecDepth 100000 in
set_option maxHeartbeats 4000000 in
theorem sg_X3_begin_2 {X : XDyn} {r0 : Rt} (C : XO X mX3_begin) {k23 : XK} (q23 : XS X mX3_begin r0 23 k23) {k2 : XK} (q2 : XS X mX3_begin r0 2 k2) : XS X mX3_begin r0 2 (rg_X3_begin_2 k23 k2) := by
 unfold rg_X3_begin_2
 exact s_iload_n (pc := 2) C dX3_begin_2 rfl <|
    s_bipush (pc := 3) C dX3_begin_3 (by decide) <|
    s_icmp_ge (pc := 5) C dX3_begin_5 (by decide) (s_iconst (pc := 21) C dX3_begin_21 <|
    s_istore_n (pc := 22) C dX3_begin_22 rfl <|
    s_cut q23)
    (s_aload_n (pc := 8) C dX3_begin_8 rfl <|
    s_get (pc := 9) C (ci := 3) (kf := 0) rfl inX3 (by decide) wd_99 dX3_begin_9 <|
    s_iload_n (pc := 12) C dX3_begin_12 rfl <|
    s_iconst (pc := 13) C dX3_begin_13 <|
    s_iast (pc := 14) C dX3_begin_14 <|
    s_iinc (pc := 15) C dX3_begin_15 <|
    s_goto (pc := 18) C dX3_begin_18 (by decide) <|
    s_cut q2)
def mg_X3_begin_23 (p1 : Int) (p2 : Int) (k23 : (Int × Ob) → Option Rt) (a : Int × Ob) : Option Rt :=
 if xw a.1 ≥ 8 then (RV [(xset (xset (xset (xset (xset (xset (xset a.2 0 7 0) 0 8 0) 0 9 p1) 0 10 p2) 0 11 0) 0 12 0) 0 13 0)])
 else (if xin a.1 8 then (
 k23 ((a.1 + 1), (xset a.2 4 (xw a.1).toNat 0))) else none)
set_option maxRecDepth 100000 in
set_option maxHeartbeats 4000000 in
theorem rq_X3_begin_23 (p1 : Int) (p2 : Int) (k23 : XK) (a : Int × Ob) : rg_X3_begin_23 k23 (en_X3_begin_23 p1 p2 a) = mg_X3_begin_23 p1 p2 (fun b => k23 (en_X3_begin_23 p1 p2 b)) a := rfl
set_option maxRecDepth 100000 in
set_option maxHeartbeats 4000000 in
theorem sg_X3_begin_23 {X : XDyn} {r0 : Rt} (C : XO X mX3_begin) {k23 : XK} (q23 : XS X mX3_begin r0 23 k23) : XS X mX3_begin r0 23 (rg_X3_begin_23 k23) := by
 unfold rg_X3_begin_23
 exact s_iload_n (pc := 23) C dX3_begin_23 rfl <|
    s_bipush (pc := 24) C dX3_begin_24 (by decide) <|
    s_icmp_ge (pc := 26) C dX3_begin_26 (by decide) (s_aload_n (pc := 42) C dX3_begin_42 rfl <|
    s_iconst (pc := 43) C dX3_begin_43 <|
    s_put (pc := 44) (z := false) C (ci := 3) (kf := 7) rfl inX3 tyX3_ok nmX3 (by decide) wd_121 rfl rfl dX3_begin_44 <|
    s_aload_n (pc := 47) C dX3_begin_47 rfl <|
    s_iconst (pc := 48) C dX3_begin_48 <|
    s_put (pc := 49) (z := false) C (ci := 3) (kf := 8) rfl inX3 tyX3_ok nmX3 (by decide) wd_123 rfl rfl dX3_begin_49 <|
    s_aload_n (pc := 52) C dX3_begin_52 rfl <|
    s_iload_n (pc := 53) C dX3_begin_53 rfl <|
    s_put (pc := 54) (z := false) C (ci := 3) (kf := 9) rfl inX3 tyX3_ok nmX3 (by decide) wd_127 rfl rfl dX3_begin_54 <|
    s_aload_n (pc := 57) C dX3_begin_57 rfl <|
    s_iload_n (pc := 58) C dX3_begin_58 rfl <|
    s_put (pc := 59) (z := false) C (ci := 3) (kf := 10) rfl inX3 tyX3_ok nmX3 (by decide) wd_129 rfl rfl dX3_begin_59 <|
    s_aload_n (pc := 62) C dX3_begin_62 rfl <|
    s_iconst (pc := 63) C dX3_begin_63 <|
    s_put (pc := 64) (z := false) C (ci := 3) (kf := 11) rfl inX3 tyX3_ok nmX3 (by decide) wd_131 rfl rfl dX3_begin_64 <|
    s_aload_n (pc := 67) C dX3_begin_67 rfl <|
    s_iconst (pc := 68) C dX3_begin_68 <|
    s_put (pc := 69) (z := false) C (ci := 3) (kf := 12) rfl inX3 tyX3_ok nmX3 (by decide) wd_133 rfl rfl dX3_begin_69 <|
    s_aload_n (pc := 72) C dX3_begin_72 rfl <|
    s_iconst (pc := 73) C dX3_begin_73 <|
    s_put (pc := 74) (z := false) C (ci := 3) (kf := 13) rfl inX3 tyX3_ok nmX3 (by decide) wd_135 rfl rfl dX3_begin_74 <|
    s_return (pc := 77) C rfl dX3_begin_77)
    (s_aload_n (pc := 29) C dX3_begin_29 rfl <|
    s_get (pc := 30) C (ci := 3) (kf := 3) rfl inX3 (by decide) wd_112 dX3_begin_30 <|
    s_iload_n (pc := 33) C dX3_begin_33 rfl <|
    s_iconst (pc := 34) C dX3_begin_34 <|
    s_iast (pc := 35) C dX3_begin_35 <|
    s_iinc (pc := 36) C dX3_begin_36 <|
    s_goto (pc := 39) C dX3_begin_39 (by decide) <|
    s_cut q23)
def rw_X3_begin_23 (f : Nat) : XK := tlp (fun k23 => rg_X3_begin_23 k23) f
def lb_X3_begin_23 (p1 : Int) (p2 : Int) (f : Nat) : ((Int × Ob) → Option Rt) → Int × Ob → Option Rt := fun k23 => mg_X3_begin_23 p1 p2 k23
def md_X3_begin_23 (p1 : Int) (p2 : Int) (f : Nat) : Int × Ob → Option Rt := tlp (lb_X3_begin_23 p1 p2 f) f
theorem eq_X3_begin_23 (p1 : Int) (p2 : Int) (f : Nat) (a : Int × Ob) : rw_X3_begin_23 f (en_X3_begin_23 p1 p2 a) = md_X3_begin_23 p1 p2 f a :=
 tlp_enc (en_X3_begin_23 p1 p2) (fun k23 a => (rq_X3_begin_23 p1 p2 k23 a).trans (congrFun (congr (rfl : mg_X3_begin_23 p1 p2 = mg_X3_begin_23 p1 p2) rfl) a)) f a
theorem sd_X3_begin_23 (f : Nat) {X : XDyn} {r0 : Rt} (C : XO X mX3_begin) : XS X mX3_begin r0 23 (rw_X3_begin_23 f) := s_lp (fun k23 q23 => sg_X3_begin_23 C q23) f
def rw_X3_begin_2 (f : Nat) : XK := tlp (fun k2 => rg_X3_begin_2 (rw_X3_begin_23 f) k2) f
def lb_X3_begin_2 (p1 : Int) (p2 : Int) (f : Nat) : ((Int × Ob) → Option Rt) → Int × Ob → Option Rt := fun k2 => mg_X3_begin_2 p1 p2 (md_X3_begin_23 p1 p2 f) k2
def md_X3_begin_2 (p1 : Int) (p2 : Int) (f : Nat) : Int × Ob → Option Rt := tlp (lb_X3_begin_2 p1 p2 f) f
theorem eq_X3_begin_2 (p1 : Int) (p2 : Int) (f : Nat) (a : Int × Ob) : rw_X3_begin_2 f (en_X3_begin_2 p1 p2 a) = md_X3_begin_2 p1 p2 f a :=
 tlp_enc (en_X3_begin_2 p1 p2) (fun k2 a => (rq_X3_begin_2 p1 p2 (rw_X3_begin_23 f) k2 a).trans (congrFun (congr (congr (rfl : mg_X3_begin_2 p1 p2 = mg_X3_begin_2 p1 p2) (funext (eq_X3_begin_23 p1 p2 f))) rfl) a)) f a
theorem sd_X3_begin_2 (f : Nat) {X : XDyn} {r0 : Rt} (C : XO X mX3_begin) : XS X mX3_begin r0 2 (rw_X3_begin_2 f) := s_lp (fun k2 q2 => sg_X3_begin_2 C (sd_X3_begin_23 f C) q2) f
def rw_X3_begin_0 (f : Nat) : XK := rg_X3_begin_0 (rw_X3_begin_2 f)
def md_X3_begin_0 (p1 : Int) (p2 : Int) (f : Nat) : Ob → Option Rt := mg_X3_begin_0 p1 p2 (md_X3_begin_2 p1 p2 f)
theorem eq_X3_begin_0 (p1 : Int) (p2 : Int) (f : Nat) (a : Ob) : rw_X3_begin_0 f (en_X3_begin_0 p1 p2 a) = md_X3_begin_0 p1 p2 f a :=
 (rq_X3_begin_0 p1 p2 (rw_X3_begin_2 f) a).trans (congrFun (congr (rfl : mg_X3_begin_0 p1 p2 = mg_X3_begin_0 p1 p2) (funext (eq_X3_begin_2 p1 p2 f))) a)
theorem sd_X3_begin_0 (f : Nat) {X : XDyn} {r0 : Rt} (C : XO X mX3_begin) : XS X mX3_begin r0 0 (rw_X3_begin_0 f) := sg_X3_begin_0 C (sd_X3_begin_2 f C)
theorem ctr_X3_begin (f : Nat) : XCt yX3_begin mX3_begin (xF mX3_begin (rw_X3_begin_0 f)) := xMet (by decide +kernel) rfl (fun _ _ C => sd_X3_begin_0 f C)
theorem eqf_X3_begin (f : Nat) (p1 : Int) (p2 : Int) (h0 : Ob) : xF mX3_begin (rw_X3_begin_0 f) [.inr (.inl (0, 0)), .inl p1, .inl p2] [h0] = md_X3_begin_0 p1 p2 f h0 := eq_X3_begin_0 p1 p2 f h0
theorem yi_X3_begin : yX3_begin.cls = RX3 ∧ yX3_begin.cls ≠ "java/lang/invoke/MethodHandle" ∧ yX3_begin.cls ≠ "java/lang/invoke/VarHandle" ∧ (parseMethodDescriptor yX3_begin.desc).map (fun d => d.parameters.length) = some 2 := ⟨rfl, by decide +kernel, by decide +kernel, by decide +kernel⟩
theorem dX7_isIn_0 : decode cX7_isIn 0 = .ok (.iload_n 1, 1) := by decide +kernel
theorem dX7_isIn_1 : decode cX7_isIn 1 = .ok (.ifCond .lt 22, 3) := by decide +kernel
theorem dX7_isIn_4 : decode cX7_isIn 4 = .ok (.iload_n 1, 1) := by decide +kernel
theorem dX7_isIn_5 : decode cX7_isIn 5 = .ok (.bipush 8, 2) := by decide +kernel
theorem dX7_isIn_7 : decode cX7_isIn 7 = .ok (.if_icmp .ge 16, 3) := by decide +kernel
theorem dX7_isIn_10 : decode cX7_isIn 10 = .ok (.iload_n 0, 1) := by decide +kernel
theorem dX7_isIn_11 : decode cX7_isIn 11 = .ok (.iload_n 1, 1) := by decide +kernel
theorem dX7_isIn_12 : decode cX7_isIn 12 = .ok (.ishr, 1) := by decide +kernel
theorem dX7_isIn_13 : decode cX7_isIn 13 = .ok (.iconst 1, 1) := by decide +kernel
theorem dX7_isIn_14 : decode cX7_isIn 14 = .ok (.iand, 1) := by decide +kernel
theorem dX7_isIn_15 : decode cX7_isIn 15 = .ok (.iconst 1, 1) := by decide +kernel
theorem dX7_isIn_16 : decode cX7_isIn 16 = .ok (.if_icmp .ne 7, 3) := by decide +kernel
theorem dX7_isIn_19 : decode cX7_isIn 19 = .ok (.iconst 1, 1) := by decide +kernel
theorem dX7_isIn_20 : decode cX7_isIn 20 = .ok (.goto 4, 3) := by decide +kernel
theorem dX7_isIn_23 : decode cX7_isIn 23 = .ok (.iconst 0, 1) := by decide +kernel
theorem dX7_isIn_24 : decode cX7_isIn 24 = .ok (.ireturn, 1) := by decide +kernel
abbrev mX7_isIn : XM := (cX7_isIn, 2, RX7, (some .boolean), shw_, 0)
def rg_X7_isIn_0 : XK :=
 o_iload 1 <|
 o_if_lt (o_iconst 0 <|
 o_zreturn)
 (o_iload 1 <|
 o_iconst 8 <|
 o_icmp_ge (o_iconst 0 <|
 o_zreturn)
 (o_iload 0 <|
 o_iload 1 <|
 o_ishr <|
 o_iconst 1 <|
 o_iand <|
 o_iconst 1 <|
 o_icmp_ne (o_iconst 0 <|
 o_zreturn)
 (o_iconst 1 <|
 o_zreturn)))
def en_X7_isIn_0 (p0 : Int) (p1 : Int) (a : Unit) : XSt := ([some (.inl p0), some (.inl p1)], [], [])
def mg_X7_isIn_0 (p0 : Int) (p1 : Int) (a : Unit) : Option Rt :=
 if xw p1 < 0 then (RI 0 [])
 else (if xw p1 ≥ 8 then (RI 0 [])
 else (if xw (xand (xshr p0 p1) 1) = 1 then (RI 1 [])
 else (RI 0 [])))
set_option maxRecDepth 100000 in
set_option maxHeartbeats 4000000 in
theorem rq_X7_isIn_0 (p0 : Int) (p1 : Int) (a : Unit) : rg_X7_isIn_0 (en_X7_isIn_0 p0 p1 a) = mg_X7_isIn_0 p0 p1 a := rfl
set_option maxRecDepth 100000 in
set_option maxHeartbeats 4000000 in
theorem sg_X7_isIn_0 {X : XDyn} {r0 : Rt} (C : XO X mX7_isIn) : XS X mX7_isIn r0 0 (rg_X7_isIn_0) := by
 unfold rg_X7_isIn_0
 exact s_iload_n (pc := 0) C dX7_isIn_0 rfl <|
    s_if_lt (pc := 1) C dX7_isIn_1 (by decide) (s_iconst (pc := 23) C dX7_isIn_23 <|
    s_zreturn (pc := 24) C rfl dX7_isIn_24)
    (s_iload_n (pc := 4) C dX7_isIn_4 rfl <|
    s_bipush (pc := 5) C dX7_isIn_5 (by decide) <|
    s_icmp_ge (pc := 7) C dX7_isIn_7 (by decide) (s_iconst (pc := 23) C dX7_isIn_23 <|
    s_zreturn (pc := 24) C rfl dX7_isIn_24)
    (s_iload_n (pc := 10) C dX7_isIn_10 rfl <|
    s_iload_n (pc := 11) C dX7_isIn_11 rfl <|
    s_ishr (pc := 12) C dX7_isIn_12 <|
    s_iconst (pc := 13) C dX7_isIn_13 <|
    s_iand (pc := 14) C dX7_isIn_14 <|
    s_iconst (pc := 15) C dX7_isIn_15 <|
    s_icmp_ne (pc := 16) C dX7_isIn_16 (by decide) (s_iconst (pc := 23) C dX7_isIn_23 <|
    s_zreturn (pc := 24) C rfl dX7_isIn_24)
    (s_iconst (pc := 19) C dX7_isIn_19 <|
    s_goto (pc := 20) C dX7_isIn_20 (by decide) <|
    s_zreturn (pc := 24) C rfl dX7_isIn_24)))
def rw_X7_isIn_0 : XK := rg_X7_isIn_0
def md_X7_isIn_0 (p0 : Int) (p1 : Int) : Unit → Option Rt := mg_X7_isIn_0 p0 p1
theorem eq_X7_isIn_0 (p0 : Int) (p1 : Int) (a : Unit) : rw_X7_isIn_0 (en_X7_isIn_0 p0 p1 a) = md_X7_isIn_0 p0 p1 a :=
 rq_X7_isIn_0 p0 p1 a
theorem sd_X7_isIn_0 {X : XDyn} {r0 : Rt} (C : XO X mX7_isIn) : XS X mX7_isIn r0 0 (rw_X7_isIn_0) := sg_X7_isIn_0 C
theorem ctr_X7_isIn : XCt yX7_isIn mX7_isIn (xF mX7_isIn (rw_X7_isIn_0)) := xMet (by decide +kernel) rfl (fun _ _ C => sd_X7_isIn_0 C)
theorem eqf_X7_isIn (p0 : Int) (p1 : Int) : xF mX7_isIn (rw_X7_isIn_0) [.inl p0, .inl p1] [] = md_X7_isIn_0 p0 p1 () := eq_X7_isIn_0 p0 p1 ()
theorem yi_X7_isIn : yX7_isIn.cls ≠ "java/lang/invoke/MethodHandle" ∧ yX7_isIn.cls ≠ "java/lang/invoke/VarHandle" ∧ (parseMethodDescriptor yX7_isIn.desc).map (fun d => d.parameters.length) = some 2 := ⟨by decide +kernel, by decide +kernel, by decide +kernel⟩
