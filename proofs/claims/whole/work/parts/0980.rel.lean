/-! the relation of both; every call keeps it -/
def RelW (N : Nat) : RelT := fun iX iR _ _ tx iB lB aB iC aC _ _ _ _ _ iK lK aK iW aW iP aP iM aM => (∃ n : Nat, iX 1 = nI n ∧ iM 1 = nI n ∧ RTape n tx (aM 0)) ∧ (∃ k : Nat, iP 1 = nI k ∧ iM 73 = nI k ∧ ROut k (aP 0) (aM 72)) ∧ iR 4 = iM 48 ∧ aM 7 = wordsM ∧ (∃ T E : Nat, iW 1 = nI T ∧ iM 66 = nI T ∧ iW 4 = nI E ∧ iM 68 = nI E ∧ RWd T E (aW 0) (aW 3) (aM 67) (aM 69) (aM 70) (aM 71)) ∧ iX 5 = iM 37 ∧ (iX 5 = 0 ∨ (iX 5 = 1 ∧ Told N iB lB aB iC aC iK lK aK iM aM))
theorem W_feed {N : Nat} (hN : 100000 ≤ N) : Sp_feed N (RelW N) := by
  intro a1 a2 a3 a4 a5 iX iR iT wT tx iB lB aB iC aC iD lD aD iE aE iK lK aK iW aW iP aP iM aM HH
  have HH' := HH
  obtain ⟨⟨tn, x1, m1, hT⟩, ⟨ok, y1, m73, hO⟩, hp, h7, ⟨T, E, w1, m66, w4, m68, hW⟩, h5, hd⟩ := HH'
  obtain ⟨r, n', tx', t0', e1, e2, e3⟩ := feed_eq (N := N) a1 a2 a3 a4 a5 hN hT
  rw [x1, m1]
  exact ⟨_, _, e1, e2, rfl, ⟨n', rfl, rfl, e3⟩, ⟨ok, y1, m73, hO⟩, hp, h7, ⟨T, E, w1, m66, w4, m68, hW⟩, h5, hd⟩
theorem W_cut {N : Nat} (hN : 100000 ≤ N) : Sp_cut N (RelW N) := by
  intro a1 iX iR iT wT tx iB lB aB iC aC iD lD aD iE aE iK lK aK iW aW iP aP iM aM HH
  have HH' := HH
  obtain ⟨⟨tn, x1, m1, hT⟩, ⟨ok, y1, m73, hO⟩, hp, h7, ⟨T, E, w1, m66, w4, m68, hW⟩, h5, hd⟩ := HH'
  obtain ⟨r, n', e1, e2, e3⟩ := cut_eq a1 hT
  rw [x1, m1]
  exact ⟨_, _, e1, e2, rfl, ⟨n', rfl, rfl, e3⟩, ⟨ok, y1, m73, hO⟩, hp, h7, ⟨T, E, w1, m66, w4, m68, hW⟩, h5, hd⟩
theorem W_place {N : Nat} (hN : 100000 ≤ N) : Sp_place N (RelW N) := by
  intro iX iR iT wT tx iB lB aB iC aC iD lD aD iE aE iK lK aK iW aW iP aP iM aM HH
  have HH' := HH
  obtain ⟨⟨tn, x1, m1, hT⟩, ⟨ok, y1, m73, hO⟩, hp, h7, ⟨T, E, w1, m66, w4, m68, hW⟩, h5, hd⟩ := HH'
  exact ⟨_, _, rfl, rfl, hp, HH⟩
theorem W_out {N : Nat} (hN : 100000 ≤ N) : Sp_out N (RelW N) := by
  intro a1 iX iR iT wT tx iB lB aB iC aC iD lD aD iE aE iK lK aK iW aW iP aP iM aM HH
  have HH' := HH
  obtain ⟨⟨tn, x1, m1, hT⟩, ⟨ok, y1, m73, hO⟩, hp, h7, ⟨T, E, w1, m66, w4, m68, hW⟩, h5, hd⟩ := HH'
  obtain ⟨r, e1, e2⟩ := out_eq a1 hO
  rw [y1, m73]
  exact ⟨r, r, e1, e2, rfl, HH⟩
theorem W_back {N : Nat} (hN : 100000 ≤ N) : Sp_back N (RelW N) := by
  intro iX iR iT wT tx iB lB aB iC aC iD lD aD iE aE iK lK aK iW aW iP aP iM aM HH
  have HH' := HH
  obtain ⟨⟨tn, x1, m1, hT⟩, ⟨ok, y1, m73, hO⟩, hp, h7, ⟨T, E, w1, m66, w4, m68, hW⟩, h5, hd⟩ := HH'
  obtain ⟨r, n', tx', t0', e1, e2, e3⟩ := back_eq (N := N) (n := tn) (tx := tx) (t0 := aM 0) hN hO
  rw [x1, m1, y1, m73]
  exact ⟨_, _, e1, e2, rfl, ⟨n', rfl, rfl, e3⟩, ⟨ok, y1, m73, hO⟩, hp, h7, ⟨T, E, w1, m66, w4, m68, hW⟩, h5, hd⟩
theorem W_atom {N : Nat} (hN : 100000 ≤ N) : Sp_atom N (RelW N) := by
  intro a1 a2 iX iR iT wT tx iB lB aB iC aC iD lD aD iE aE iK lK aK iW aW iP aP iM aM HH
  have HH' := HH
  obtain ⟨⟨tn, x1, m1, hT⟩, ⟨ok, y1, m73, hO⟩, hp, h7, ⟨T, E, w1, m66, w4, m68, hW⟩, h5, hd⟩ := HH'
  rcases hd with h0 | ⟨h1, TD⟩
  · refine ⟨-101, -101, ?_, ?_, rfl, HH⟩
    · unfold f_X_atom
      rw [h0, if_pos rfl]
    · unfold f_M_atom
      rw [← h5, h0, if_pos rfl]
  · obtain ⟨n, nn, nr, S, rc, qc, sz, no, ns, o, φ, wt, pl, tl, ⟨b1, b2, b3, b4, b5, b6, b7, b8⟩, ⟨p1, p2, p3, p4, p5, p6, p7, p8, p9, p10, p11, p12, p13, p14, p15, p16⟩, HC, HR, HA, HU, HS, HN, HL, HT, ⟨HX0, HX1, HX2⟩, ⟨RA, sd0, own, k1, k2, k3, k4, k5, k6, k7, k8, k11, k12, k13, k14, k15⟩⟩ := TD
    have h37 : iM 37 = 1 := h5.symm.trans h1
    obtain ⟨r, e1, e2⟩ := atom_eq (f1 := aC 5) (f2 := aM 32) (g1 := aC 6) (g2 := aM 33) b1 (fun k hk => by have := (HA k hk).1; rw [Nat.zero_add] at this; exact this.symm) (fun k hk => by have := (HA k hk).2.1; rw [Nat.zero_add] at this; exact this.symm) a1 a2
    rw [h1, h37, p15, p16]
    exact ⟨r, r, e1, e2, rfl, HH⟩
theorem W_rank {N : Nat} (hN : 100000 ≤ N) : Sp_rank N (RelW N) := by
  intro a1 iX iR iT wT tx iB lB aB iC aC iD lD aD iE aE iK lK aK iW aW iP aP iM aM HH
  have HH' := HH
  obtain ⟨⟨tn, x1, m1, hT⟩, ⟨ok, y1, m73, hO⟩, hp, h7, ⟨T, E, w1, m66, w4, m68, hW⟩, h5, hd⟩ := HH'
  rcases hd with h0 | ⟨h1, TD⟩
  · refine ⟨-101, -101, ?_, ?_, rfl, HH⟩
    · unfold f_X_rank
      rw [h0, if_pos rfl]
    · unfold f_M_rank
      rw [← h5, h0, if_pos rfl]
  · obtain ⟨n, nn, nr, S, rc, qc, sz, no, ns, o, φ, wt, pl, tl, ⟨b1, b2, b3, b4, b5, b6, b7, b8⟩, ⟨p1, p2, p3, p4, p5, p6, p7, p8, p9, p10, p11, p12, p13, p14, p15, p16⟩, HC, HR, HA, HU, HS, HN, HL, HT, ⟨HX0, HX1, HX2⟩, ⟨RA, sd0, own, k1, k2, k3, k4, k5, k6, k7, k8, k11, k12, k13, k14, k15⟩⟩ := TD
    have h37 : iM 37 = 1 := h5.symm.trans h1
    obtain ⟨r, e1, e2⟩ := rank_eq b1 k7 a1
    rw [h1, h37, k1, p16]
    exact ⟨r, r, e1, e2, rfl, HH⟩
theorem W_goes {N : Nat} (hN : 100000 ≤ N) : Sp_goes N (RelW N) := by
  intro a1 a2 a3 iX iR iT wT tx iB lB aB iC aC iD lD aD iE aE iK lK aK iW aW iP aP iM aM HH
  have HH' := HH
  obtain ⟨⟨tn, x1, m1, hT⟩, ⟨ok, y1, m73, hO⟩, hp, h7, ⟨T, E, w1, m66, w4, m68, hW⟩, h5, hd⟩ := HH'
  rcases hd with h0 | ⟨h1, TD⟩
  · refine ⟨-101, -101, ?_, ?_, rfl, HH⟩
    · unfold f_X_goes
      rw [h0, if_pos rfl]
    · unfold f_M_goes
      rw [← h5, h0, if_pos rfl]
  · obtain ⟨n, nn, nr, S, rc, qc, sz, no, ns, o, φ, wt, pl, tl, ⟨b1, b2, b3, b4, b5, b6, b7, b8⟩, ⟨p1, p2, p3, p4, p5, p6, p7, p8, p9, p10, p11, p12, p13, p14, p15, p16⟩, HC, HR, HA, HU, HS, HN, HL, HT, ⟨HX0, HX1, HX2⟩, ⟨RA, sd0, own, k1, k2, k3, k4, k5, k6, k7, k8, k11, k12, k13, k14, k15⟩⟩ := TD
    have h37 : iM 37 = 1 := h5.symm.trans h1
    obtain ⟨r, e1, e2⟩ := goes_eq (N := N) hN b1 b3 k8.1.2.2.2.1 k8.1.2.2.2.2.1 a1 a2 a3
    rw [h1, h37, p5, k1, p6, p16]
    exact ⟨r, r, e1, e2, rfl, HH⟩
theorem W_at {N : Nat} (hN : 100000 ≤ N) : Sp_at N (RelW N) := by
  intro a1 a2 iX iR iT wT tx iB lB aB iC aC iD lD aD iE aE iK lK aK iW aW iP aP iM aM HH
  have HH' := HH
  obtain ⟨⟨tn, x1, m1, hT⟩, ⟨ok, y1, m73, hO⟩, hp, h7, ⟨T, E, w1, m66, w4, m68, hW⟩, h5, hd⟩ := HH'
  rcases hd with h0 | ⟨h1, TD⟩
  · refine ⟨-101, -101, ?_, ?_, rfl, HH⟩
    · unfold f_X_at
      rw [h0, if_pos rfl]
    · unfold f_M_at
      rw [← h5, h0, if_pos rfl]
  · obtain ⟨n, nn, nr, S, rc, qc, sz, no, ns, o, φ, wt, pl, tl, ⟨b1, b2, b3, b4, b5, b6, b7, b8⟩, ⟨p1, p2, p3, p4, p5, p6, p7, p8, p9, p10, p11, p12, p13, p14, p15, p16⟩, HC, HR, HA, HU, HS, HN, HL, HT, ⟨HX0, HX1, HX2⟩, ⟨RA, sd0, own, k1, k2, k3, k4, k5, k6, k7, k8, k11, k12, k13, k14, k15⟩⟩ := TD
    have h37 : iM 37 = 1 := h5.symm.trans h1
    obtain ⟨r, e1, e2⟩ := at_eq b1 b5 k14 a1 a2
    rw [h1, h37, p11, k1, p12, p16]
    exact ⟨r, r, e1, e2, rfl, HH⟩
theorem W_ask {N : Nat} (hN : 100000 ≤ N) : Sp_ask N (RelW N) := by
  intro a1 iX iR iT wT tx iB lB aB iC aC iD lD aD iE aE iK lK aK iW aW iP aP iM aM HH
  have HH' := HH
  obtain ⟨⟨tn, x1, m1, hT⟩, ⟨ok, y1, m73, hO⟩, hp, h7, ⟨T, E, w1, m66, w4, m68, hW⟩, h5, hd⟩ := HH'
  rcases hd with h0 | ⟨h1, TD⟩
  · refine ⟨-101, -101, ?_, ?_, rfl, HH⟩
    · unfold f_X_ask
      rw [h0, if_pos rfl]
    · unfold f_M_ask
      rw [← h5, h0, if_pos rfl]
  · obtain ⟨n, nn, nr, S, rc, qc, sz, no, ns, o, φ, wt, pl, tl, ⟨b1, b2, b3, b4, b5, b6, b7, b8⟩, ⟨p1, p2, p3, p4, p5, p6, p7, p8, p9, p10, p11, p12, p13, p14, p15, p16⟩, HC, HR, HA, HU, HS, HN, HL, HT, ⟨HX0, HX1, HX2⟩, ⟨RA, sd0, own, k1, k2, k3, k4, k5, k6, k7, k8, k11, k12, k13, k14, k15⟩⟩ := TD
    have h37 : iM 37 = 1 := h5.symm.trans h1
    obtain ⟨r, e1, e2⟩ := ask_eq (N := N) hN b1 b5 k14 k6 a1
    rw [h1, h37, p11, p12, p16]
    exact ⟨r, r, e1, e2, rfl, HH⟩
theorem W_isUnder {N : Nat} (hN : 100000 ≤ N) : Sp_isUnder N (RelW N) := by
  intro a1 a2 iX iR iT wT tx iB lB aB iC aC iD lD aD iE aE iK lK aK iW aW iP aP iM aM HH
  have HH' := HH
  obtain ⟨⟨tn, x1, m1, hT⟩, ⟨ok, y1, m73, hO⟩, hp, h7, ⟨T, E, w1, m66, w4, m68, hW⟩, h5, hd⟩ := HH'
  rcases hd with h0 | ⟨h1, TD⟩
  · refine ⟨-101, -101, ?_, ?_, rfl, HH⟩
    · unfold f_X_isUnder
      rw [h0, if_pos rfl]
    · unfold f_M_isUnder
      rw [← h5, h0, if_pos rfl]
  · obtain ⟨n, nn, nr, S, rc, qc, sz, no, ns, o, φ, wt, pl, tl, ⟨b1, b2, b3, b4, b5, b6, b7, b8⟩, ⟨p1, p2, p3, p4, p5, p6, p7, p8, p9, p10, p11, p12, p13, p14, p15, p16⟩, HC, HR, HA, HU, HS, HN, HL, HT, ⟨HX0, HX1, HX2⟩, ⟨RA, sd0, own, k1, k2, k3, k4, k5, k6, k7, k8, k11, k12, k13, k14, k15⟩⟩ := TD
    have h37 : iM 37 = 1 := h5.symm.trans h1
    obtain ⟨r, e1, e2⟩ := isUnder_eq (N := N) hN b1 b2 b6 k15 k6 a1 a2
    rw [h1, h37, p3, p14, p4, p16]
    exact ⟨r, r, e1, e2, rfl, HH⟩
theorem W_next {N : Nat} (hN : 100000 ≤ N) : Sp_next N (RelW N) := by
  intro a1 a2 iX iR iT wT tx iB lB aB iC aC iD lD aD iE aE iK lK aK iW aW iP aP iM aM HH
  have HH' := HH
  obtain ⟨⟨tn, x1, m1, hT⟩, ⟨ok, y1, m73, hO⟩, hp, h7, ⟨T, E, w1, m66, w4, m68, hW⟩, h5, hd⟩ := HH'
  rcases hd with h0 | ⟨h1, TD⟩
  · refine ⟨-101, -101, ?_, ?_, rfl, HH⟩
    · unfold f_X_next
      rw [h0, if_pos rfl]
    · unfold f_M_next_
      rw [← h5, h0, if_pos rfl]
  · obtain ⟨n, nn, nr, S, rc, qc, sz, no, ns, o, φ, wt, pl, tl, ⟨b1, b2, b3, b4, b5, b6, b7, b8⟩, ⟨p1, p2, p3, p4, p5, p6, p7, p8, p9, p10, p11, p12, p13, p14, p15, p16⟩, HC, HR, HA, HU, HS, HN, HL, HT, ⟨HX0, HX1, HX2⟩, ⟨RA, sd0, own, k1, k2, k3, k4, k5, k6, k7, k8, k11, k12, k13, k14, k15⟩⟩ := TD
    have h37 : iM 37 = 1 := h5.symm.trans h1
    obtain ⟨r, e1, e2⟩ := next_eq (N := N) hN b1 b2 b6 k15 k6 a1 a2
    rw [h1, h37, p3, p14, p4, p16]
    exact ⟨r, r, e1, e2, rfl, HH⟩
theorem W_same {N : Nat} (hN : 100000 ≤ N) : Sp_same N (RelW N) := by
  intro a1 a2 iX iR iT wT tx iB lB aB iC aC iD lD aD iE aE iK lK aK iW aW iP aP iM aM HH
  have HH' := HH
  obtain ⟨⟨tn, x1, m1, hT⟩, ⟨ok, y1, m73, hO⟩, hp, h7, ⟨T, E, w1, m66, w4, m68, hW⟩, h5, hd⟩ := HH'
  rcases hd with h0 | ⟨h1, TD⟩
  · refine ⟨-101, -101, ?_, ?_, rfl, HH⟩
    · unfold f_X_same
      rw [h0, if_pos rfl]
    · unfold f_M_same
      rw [← h5, h0, if_pos rfl]
  · obtain ⟨n, nn, nr, S, rc, qc, sz, no, ns, o, φ, wt, pl, tl, ⟨b1, b2, b3, b4, b5, b6, b7, b8⟩, ⟨p1, p2, p3, p4, p5, p6, p7, p8, p9, p10, p11, p12, p13, p14, p15, p16⟩, HC, HR, HA, HU, HS, HN, HL, HT, ⟨HX0, HX1, HX2⟩, ⟨RA, sd0, own, k1, k2, k3, k4, k5, k6, k7, k8, k11, k12, k13, k14, k15⟩⟩ := TD
    have h37 : iM 37 = 1 := h5.symm.trans h1
    obtain ⟨r, e1, e2⟩ := same_eq (N := N) hN b1 b5 k14 k6 a1 a2
    rw [h1, h37, p11, p12, p16]
    exact ⟨r, r, e1, e2, rfl, HH⟩
theorem W_thing {N : Nat} (hN : 100000 ≤ N) : Sp_thing N (RelW N) := by
  intro a1 iX iR iT wT tx iB lB aB iC aC iD lD aD iE aE iK lK aK iW aW iP aP iM aM HH
  have HH' := HH
  obtain ⟨⟨tn, x1, m1, hT⟩, ⟨ok, y1, m73, hO⟩, hp, h7, ⟨T, E, w1, m66, w4, m68, hW⟩, h5, hd⟩ := HH'
  rcases hd with h0 | ⟨h1, TD⟩
  · refine ⟨-101, -101, ?_, ?_, rfl, HH⟩
    · unfold f_X_thing
      rw [h0, if_pos rfl]
    · unfold f_M_thing
      rw [← h5, h0, if_pos rfl]
  · obtain ⟨n, nn, nr, S, rc, qc, sz, no, ns, o, φ, wt, pl, tl, ⟨b1, b2, b3, b4, b5, b6, b7, b8⟩, ⟨p1, p2, p3, p4, p5, p6, p7, p8, p9, p10, p11, p12, p13, p14, p15, p16⟩, HC, HR, HA, HU, HS, HN, HL, HT, ⟨HX0, HX1, HX2⟩, ⟨RA, sd0, own, k1, k2, k3, k4, k5, k6, k7, k8, k11, k12, k13, k14, k15⟩⟩ := TD
    have h37 : iM 37 = 1 := h5.symm.trans h1
    obtain ⟨r, e1, e2⟩ := thing_eq hW.1 hW.2.2.1 a1
    rw [h1, h37, w1, m66]
    exact ⟨r, r, e1, e2, rfl, HH⟩
theorem W_edge {N : Nat} (hN : 100000 ≤ N) : Sp_edge N (RelW N) := by
  intro a1 a2 iX iR iT wT tx iB lB aB iC aC iD lD aD iE aE iK lK aK iW aW iP aP iM aM HH
  have HH' := HH
  obtain ⟨⟨tn, x1, m1, hT⟩, ⟨ok, y1, m73, hO⟩, hp, h7, ⟨T, E, w1, m66, w4, m68, hW⟩, h5, hd⟩ := HH'
  rcases hd with h0 | ⟨h1, TD⟩
  · refine ⟨-101, -101, ?_, ?_, rfl, HH⟩
    · unfold f_X_edge
      rw [h0, if_pos rfl]
    · unfold f_M_edge
      rw [← h5, h0, if_pos rfl]
  · obtain ⟨n, nn, nr, S, rc, qc, sz, no, ns, o, φ, wt, pl, tl, ⟨b1, b2, b3, b4, b5, b6, b7, b8⟩, ⟨p1, p2, p3, p4, p5, p6, p7, p8, p9, p10, p11, p12, p13, p14, p15, p16⟩, HC, HR, HA, HU, HS, HN, HL, HT, ⟨HX0, HX1, HX2⟩, ⟨RA, sd0, own, k1, k2, k3, k4, k5, k6, k7, k8, k11, k12, k13, k14, k15⟩⟩ := TD
    have h37 : iM 37 = 1 := h5.symm.trans h1
    obtain ⟨r, e1, e2⟩ := edge_eq hW.2.1 hW.2.2.2 a1 a2
    rw [h1, h37, w4, m68]
    exact ⟨r, r, e1, e2, rfl, HH⟩
theorem W_count {N : Nat} (hN : 100000 ≤ N) : Sp_count N (RelW N) := by
  intro a1 iX iR iT wT tx iB lB aB iC aC iD lD aD iE aE iK lK aK iW aW iP aP iM aM HH
  have HH' := HH
  obtain ⟨⟨tn, x1, m1, hT⟩, ⟨ok, y1, m73, hO⟩, hp, h7, ⟨T, E, w1, m66, w4, m68, hW⟩, h5, hd⟩ := HH'
  rcases hd with h0 | ⟨h1, TD⟩
  · by_cases h11 : a1 = 11
    · refine ⟨iP 1, iM 73, ?_, ?_, y1.trans m73.symm, HH⟩
      · unfold f_X_count
        rw [if_pos h11]
      · unfold f_M_count
        rw [if_pos h11]
    · refine ⟨-101, -101, ?_, ?_, rfl, HH⟩
      · unfold f_X_count
        rw [if_neg h11, h0, if_pos rfl]
      · unfold f_M_count
        rw [if_neg h11, ← h5, h0, if_pos rfl]
  · obtain ⟨n, nn, nr, S, rc, qc, sz, no, ns, o, φ, wt, pl, tl, ⟨b1, b2, b3, b4, b5, b6, b7, b8⟩, ⟨p1, p2, p3, p4, p5, p6, p7, p8, p9, p10, p11, p12, p13, p14, p15, p16⟩, HC, HR, HA, HU, HS, HN, HL, HT, ⟨HX0, HX1, HX2⟩, ⟨RA, sd0, own, k1, k2, k3, k4, k5, k6, k7, k8, k11, k12, k13, k14, k15⟩⟩ := TD
    have h37 : iM 37 = 1 := h5.symm.trans h1
    obtain ⟨r, e1, e2⟩ := count_eq (N := N) (b1 := nI no) (b3 := nI nn) (b5 := nI nr) (b9 := nI rc) (b11 := nI qc) (i8 := iM 65) (w1 := nI T) (w4 := nI E) (p1 := nI ok) hN b1 k4 k5 k6 a1
    rw [h1, h37, p1, p2, p3, p4, p5, p6, p9, p10, p11, p12, p15, p16, k3, w1, m66, w4, m68, y1, m73]
    exact ⟨r, r, e1, e2, rfl, HH⟩
theorem W_world {N : Nat} (hN : 100000 ≤ N) : Sp_world N (RelW N) := by
  intro a1 iX iR iT wT tx iB lB aB iC aC iD lD aD iE aE iK lK aK iW aW iP aP iM aM HH
  have HH' := HH
  obtain ⟨⟨tn, x1, m1, hT⟩, ⟨ok, y1, m73, hO⟩, hp, h7, ⟨T, E, w1, m66, w4, m68, hW⟩, h5, hd⟩ := HH'
  rcases hd with h0 | ⟨h1, TD⟩
  · refine ⟨(-101, iW 1, iW 4, aW 0, aW 2, aW 3), (-101, iM 66, iM 68, aM 67, aM 69, aM 70, aM 71), ?_, ?_, rfl, ⟨tn, x1, m1, hT⟩, ⟨ok, y1, m73, hO⟩, hp, h7, ⟨T, E, w1, m66, w4, m68, hW⟩, h5, Or.inl h0⟩
    · unfold f_X_world
      rw [h0, if_pos rfl]
    · unfold f_M_world
      rw [← h5, h0, if_pos rfl]
  · obtain ⟨n, nn, nr, S, rc, qc, sz, no, ns, o, φ, wt, pl, tl, ⟨b1, b2, b3, b4, b5, b6, b7, b8⟩, ⟨p1, p2, p3, p4, p5, p6, p7, p8, p9, p10, p11, p12, p13, p14, p15, p16⟩, HC, HR, HA, HU, HS, HN, HL, HT, ⟨HX0, HX1, HX2⟩, ⟨RA, sd0, own, k1, k2, k3, k4, k5, k6, k7, k8, k11, k12, k13, k14, k15⟩⟩ := TD
    have h37 : iM 37 = 1 := h5.symm.trans h1
    obtain ⟨v, T', E', w0', w2', w3', m67', m69', m70', m71', e1, e2, e3⟩ := world_eq (N := N) (w2 := aW 2) (m32 := aM 32) hN k8.1 k12 k6 (k13 _ k6) (fun k hk => by have := (HA k hk).1; rw [Nat.zero_add] at this; exact this) b5 k14 hW a1
    rw [h1, h37, p11, p13, p15, w1, w4, p12, p16, m66, m68]
    exact ⟨_, _, e1, e2, rfl, ⟨tn, x1, m1, hT⟩, ⟨ok, y1, m73, hO⟩, hp, h7, ⟨T', E', rfl, rfl, rfl, rfl, e3⟩, h5, Or.inr ⟨h1, ⟨n, nn, nr, S, rc, qc, sz, no, ns, o, φ, wt, pl, tl, ⟨b1, b2, b3, b4, b5, b6, b7, b8⟩, ⟨p1, p2, p3, p4, p5, p6, p7, p8, p9, p10, p11, p12, p13, p14, p15, p16⟩, HC, HR, HA, HU, HS, HN, HL, HT, ⟨HX0, HX1, HX2⟩, ⟨RA, sd0, own, k1, k2, k3, k4, k5, k6, k7, k8, k11, k12, k13, k14, k15⟩⟩⟩⟩
theorem W_bones {N : Nat} (hN : 100000 ≤ N) : Sp_bones N (RelW N) := by
  intro a1 iX iR iT wT tx iB lB aB iC aC iD lD aD iE aE iK lK aK iW aW iP aP iM aM HH
  have HH' := HH
  obtain ⟨⟨tn, x1, m1, hT⟩, ⟨ok, y1, m73, hO⟩, hp, h7, ⟨T, E, w1, m66, w4, m68, hW⟩, h5, hd⟩ := HH'
  rcases hd with h0 | ⟨h1, TD⟩
  · refine ⟨(-101, lK 10, lK 11, lK 12, aK 13), (-101, iM 64, iM 65, aM 61, aM 62, aM 63), ?_, ?_, rfl, ⟨tn, x1, m1, hT⟩, ⟨ok, y1, m73, hO⟩, hp, h7, ⟨T, E, w1, m66, w4, m68, hW⟩, h5, Or.inl h0⟩
    · unfold f_X_bones
      rw [h0, if_pos rfl]
    · unfold f_M_bones
      rw [← h5, h0, if_pos rfl]
  · obtain ⟨n, nn, nr, S, rc, qc, sz, no, ns, o, φ, wt, pl, tl, ⟨b1, b2, b3, b4, b5, b6, b7, b8⟩, ⟨p1, p2, p3, p4, p5, p6, p7, p8, p9, p10, p11, p12, p13, p14, p15, p16⟩, HC, HR, HA, HU, HS, HN, HL, HT, ⟨HX0, HX1, HX2⟩, ⟨RA, sd0, own, k1, k2, k3, k4, k5, k6, k7, k8, k11, k12, k13, k14, k15⟩⟩ := TD
    have h37 : iM 37 = 1 := h5.symm.trans h1
    obtain ⟨v, row', b', t', sd', stood', e1, e2, e3⟩ := bones_eq (N := N) (l10 := lK 10) (l11 := lK 11) (l12 := lK 12) (a13 := aK 13) (m61 := aM 61) (m63 := aM 63) (i64 := iM 64) (i65 := iM 65) hN k8 k11 k6 b5 k14 a1
    rw [h1, h37, p9, p11, p13, p15, k1, k2, p10, p12, p6, p16]
    exact ⟨_, _, e1, e2, rfl, ⟨tn, x1, m1, hT⟩, ⟨ok, y1, m73, hO⟩, hp, h7, ⟨T, E, w1, m66, w4, m68, hW⟩, h5, Or.inr ⟨h1, ⟨n, nn, nr, S, rc, qc, sz, no, ns, o, φ, wt, pl, tl, ⟨b1, b2, b3, b4, b5, b6, b7, b8⟩, ⟨p1, p2, p3, p4, p5, p6, p7, p8, p9, p10, p11, p12, p13, p14, p15, p16⟩, HC, HR, HA, HU, HS, HN, HL, HT, ⟨HX0, HX1, HX2⟩, ⟨RA, sd0, own, k1, k2, k3, k4, k5, e3, k7, k8, k11, k12, k13, k14, k15⟩⟩⟩⟩
theorem W_print {N : Nat} (hN : 100000 ≤ N) : Sp_print N (RelW N) := by
  intro iX iR iT wT tx iB lB aB iC aC iD lD aD iE aE iK lK aK iW aW iP aP iM aM HH
  have HH' := HH
  obtain ⟨⟨tn, x1, m1, hT⟩, ⟨ok, y1, m73, hO⟩, hp, h7, ⟨T, E, w1, m66, w4, m68, hW⟩, h5, hd⟩ := HH'
  rcases hd with h0 | ⟨h1, TD⟩
  · refine ⟨(-101, iP 1, iP 4, aP 0, aP 3, false), (-101, iM 73, iM 77, aM 72, aM 74, aM 75, aM 76), ?_, ?_, rfl, ⟨tn, x1, m1, hT⟩, ⟨ok, y1, m73, hO⟩, hp, h7, ⟨T, E, w1, m66, w4, m68, hW⟩, h5, Or.inl h0⟩
    · unfold f_X_print
      rw [h0, if_pos rfl]
    · unfold f_M_print
      rw [← h5, h0, if_pos rfl]
  · obtain ⟨n, nn, nr, S, rc, qc, sz, no, ns, o, φ, wt, pl, tl, ⟨b1, b2, b3, b4, b5, b6, b7, b8⟩, ⟨p1, p2, p3, p4, p5, p6, p7, p8, p9, p10, p11, p12, p13, p14, p15, p16⟩, HC, HR, HA, HU, HS, HN, HL, HT, ⟨HX0, HX1, HX2⟩, ⟨RA, sd0, own, k1, k2, k3, k4, k5, k6, k7, k8, k11, k12, k13, k14, k15⟩⟩ := TD
    have h37 : iM 37 = 1 := h5.symm.trans h1
    obtain ⟨i4', i77', p', a3', ou', b74, b75, b76, e1, e2, e3⟩ := print_eq (N := N) (k1 := iP 1) (i4 := iP 4) (k73 := iM 73) (i77 := iM 77) (p := aP 0) (a3 := aP 3) (ou := aM 72) (a74 := aM 74) (a75 := aM 75) (a76 := aM 76) hN b6 b2 b3 b8 HC HR HT HN HL HS HX0 HX1 HX2
    rw [h1, h37, p3, p5, p7, p14, p8, h7]
    exact ⟨_, _, e1, e2, rfl, ⟨tn, x1, m1, hT⟩, ⟨tl ns, rfl, rfl, e3⟩, hp, h7, ⟨T, E, w1, m66, w4, m68, hW⟩, h5, Or.inr ⟨h1, ⟨n, nn, nr, S, rc, qc, sz, no, ns, o, φ, wt, pl, tl, ⟨b1, b2, b3, b4, b5, b6, b7, b8⟩, ⟨p1, p2, p3, p4, p5, p6, p7, p8, p9, p10, p11, p12, p13, p14, p15, p16⟩, HC, HR, HA, HU, HS, HN, HL, HT, ⟨HX0, HX1, HX2⟩, ⟨RA, sd0, own, k1, k2, k3, k4, k5, k6, k7, k8, k11, k12, k13, k14, k15⟩⟩⟩⟩
theorem W_read {N : Nat} (hN : 100000 ≤ N) : Sp_read N (RelW N) := by
  intro iX iR iT wT tx iB lB aB iC aC iD lD aD iE aE iK lK aK iW aW iP aP iM aM HH
  have HH' := HH
  obtain ⟨⟨tn, x1, m1, hT⟩, ⟨ok, y1, m73, hO⟩, hp, h7, ⟨T, E, w1, m66, w4, m68, hW⟩, h5, hd⟩ := HH'
  unfold f_X_read
  rw [x1]
  rcases rd_eq (iR := iR) (iT := iT) (wT := wT) (iB := iD) (lB := lD) (aB := aD) (iC := iE) (aC := aE) hN hT m1 h7 with ⟨S, Od, G, nx, fr, nd, no, sz, na, nn, nr, ns, rc, qc, o, φ, wt, pl, tl, iT', wT', iB', lB', aB', iC', aC', X, Y, e1, e2, B, f1, f2⟩ | ⟨F, p, iR', z, X, Y, e1, e2, F1, F2, F3, F4, F5, F6, F7, f1, f2⟩
  · obtain ⟨iK', lK', aK', X', Y', v1, v2, TD, t14, t1, t48, t37, t66, t68, t73, t72, t7⟩ := told_new (iK := iK) (lK := lK) (aK := aK) hN B
    obtain ⟨w2', c1, -⟩ := clr_eq (N := N) (i1 := iW 1) (i4 := iW 4) (w2 := aW 2) hN
    have x46 : X 46 = 0 := B.1.1
    refine ⟨(iB' 1, us iX [(1, 0), (5, 1)], us iR [(3, 0), (4, -1)], iT', wT', iB', lB', aB', iC', aC', iK', lK', aK', us iW [(1, 0), (4, 0)], us aW [(2, w2')], true), (X' 14, X', Y'), ?_, ?_, t14, fun _ => ?_, fun h => absurd h (by simp)⟩
    · rw [e1, Option.bind_some]
      show (if (1 : Int32) = 0 then _ else (f_K_workOut N iK lK aK iB' lB' aB' iC' aC').bind _) = _
      rw [if_neg i1z, v1, Option.bind_some, c1, Option.bind_some]
    · rw [e2]
      unfold f_M_read_143
      rw [x46, M_fine0, Option.bind_some, if_neg i1z, v2, Option.bind_some]
    · have hO' : ROut ok (aP 0) (Y' 72) := by rw [t72, f2.1 72 rfl]; exact hO
      exact ⟨⟨0, rfl, t1, ⟨by omega, fun j h => absurd h (by omega)⟩⟩, ⟨ok, y1, t73.trans ((f1 73 rfl).trans m73), hO'⟩, t48.symm, t7.trans ((f2.1 7 rfl).trans h7), ⟨0, 0, rfl, t66, rfl, t68, ⟨by omega, by omega, fun j h => absurd h (by omega), fun j h => absurd h (by omega)⟩⟩, t37.symm, Or.inr ⟨rfl, TD⟩⟩
  · refine ⟨(-(iR' 3), us iX [(1, 0)], iR', z.1, z.2.1, z.2.2.1, z.2.2.2.1, z.2.2.2.2.1, z.2.2.2.2.2.1, z.2.2.2.2.2.2, iK, lK, aK, iW, aW, false), (-(X 46), us X [(1, 0), (48, X 47)], Y), ?_, ?_, ?_, fun h => absurd h (by simp), fun _ => ?_⟩
    · rw [e1, Option.bind_some, if_pos rfl]
    · rw [e2]
      unfold f_M_read_143
      rw [F6, fine_bad F1 F2, Option.bind_some, if_pos rfl]
    · show -(iR' 3) = -(X 46)
      rw [F4, F6]
    · have hO' : ROut ok (aP 0) (Y 72) := by rw [f2.1 72 rfl]; exact hO
      have hW' : RWd T E (aW 0) (aW 3) (Y 67) (Y 69) (Y 70) (Y 71) := by rw [f2.1 67 rfl, f2.1 69 rfl, f2.1 70 rfl, f2.1 71 rfl]; exact hW
      refine ⟨⟨0, rfl, rfl, ⟨by omega, fun j h => absurd h (by omega)⟩⟩, ⟨ok, y1, (f1 73 rfl).trans m73, hO'⟩, F5.trans F7.symm, (f2.1 7 rfl).trans h7, ⟨T, E, w1, (f1 66 rfl).trans m66, w4, (f1 68 rfl).trans m68, hW'⟩, h5.trans (f1 37 rfl).symm, ?_⟩
      rcases hd with h0 | ⟨h1, TD⟩
      · exact Or.inl h0
      · have TD' := TD.fr f1 f2
        exact Or.inr ⟨h1, TD'⟩
