/-! a node before its operand ends, of both -/
theorem tr_bef {sz nn nr na K c c1 A : Nat} {wt pl nl rl wt' pl' : Nat → Nat} {v2 : Int32} {c0 d0 d1 d2 d3 d5 d6 d7 d8 : Nat → Int32} {sz' : Nat} (hz : sz ≤ 200) (CS : ClS sz' nn nr na wt' pl' nl rl d0 d1 d2 d3 d5 d6 d7 d8) (hc : c < sz') (hc1 : c1 < sz) (hK : K = 3 ∨ K = 4 ∨ K = 5) (e0 : d0 c = nI K) (e1 : d1 c = nI c1) (e2 : d2 c = v2) (hA : (K = 3 → A = 4) ∧ (K = 4 → A = 6 + rl v2.toNatClampNeg) ∧ (K = 5 → A = 7 + rl v2.toNatClampNeg)) (ea : ∀ a, a < sz → d0 a = c0 a ∧ wt' a = wt a ∧ pl' a = pl a) : wt' c = 1 + wt c1 ∧ plx d0 pl' 3 c = A + plx c0 pl 3 c1 := by
  have T := CS.2.2.2.2 c hc
  obtain ⟨y0, yw, yp⟩ := ea c1 hc1
  have px : plx d0 pl' 3 c1 = plx c0 pl 3 c1 := by unfold plx kd; rw [y0, yp]
  have k8 : K < 8 := by omega
  have hk : kd d0 c = K := kd_of k8 e0
  unfold TrE at T
  rw [hk, e1, e2, nI_cl (show c1 < 2147483648 by omega), px, yw] at T
  have pc : plx d0 pl' 3 c = pl' c := by
    unfold plx
    rw [hk]
    rcases hK with e | e | e <;> (rw [e]; rfl)
  rw [pc]
  rcases hK with e | e | e
  · have := T.2.2.2.1 e; rw [hA.1 e]; exact this
  · have := T.2.2.2.2.1 e; rw [hA.2.1 e]; exact this
  · have := T.2.2.2.2.2.1 e; rw [hA.2.2 e]; exact this
def BefG (N n : Nat) (tx : Nat → Int32) (S Od nx fr nd no na nn nr : Nat) (o φ wt pl : Nat → Nat) (iT : Nat → Int32) (wT : Int64) (iB : Nat → Int32) (lB : Nat → Nat → Int64) (iC : Nat → Int32) (aC : Nat → Nat → Int32) (X : Nat → Int32) (Y : Nat → Nat → Int32) (d W x sz c1 K A : Nat) (v2 : Int32) : Prop := (∃ (c sz' na' : Nat) (wt' pl' : Nat → Nat) (d0 d1 d2 d3 d5 d6 d7 d8 : Nat → Int32) (X' : Nat → Int32) (Y' : Nat → Nat → Int32), f_C_make N (nI K) (nI c1) v2 (iC 4) (iC 9) (aC 0) (aC 1) (aC 2) (aC 3) (aC 5) (aC 6) (aC 7) (aC 8) = some (nI c, nI sz', nI na', d0, d1, d2, d3, d5, d6, d7, d8) ∧ (∀ oI oA f, f_M_stand_5 N oI oA (f + 1) X Y = f_M_stand_5 N oI oA f X' Y') ∧ PS n tx S Od nx fr nd (no + 1) sz' na' nn nr (oAd o no x) (φAd φ x c) wt' pl' iT wT iB lB (us iC [(4, nI sz'), (9, nI na')]) (us aC [(0, d0), (1, d1), (2, d2), (3, d3), (5, d5), (6, d6), (7, d7), (8, d8)]) X' Y' ∧ X' 54 = nI W ∧ X' 49 = nI d ∧ X' 55 = nI (200 + x) ∧ X' 3 = X 3 ∧ FrI tc X X' ∧ FrA ta Y Y' ∧ Y' 52 = Y 52 ∧ Y' 53 = Y 53 ∧ Y' 27 = Y 27 ∧ (∀ i, i ≠ 200 + x → Y' 8 i = Y 8 i ∧ Y' 9 i = Y 9 i ∧ Y' 10 i = Y 10 i ∧ Y' 11 i = Y 11 i ∧ Y' 12 i = Y 12 i) ∧ sz ≤ sz' ∧ sz' ≤ sz + 1 ∧ c < sz' ∧ (∀ a, a < sz → d0 a = aC 0 a ∧ wt' a = wt a ∧ pl' a = pl a) ∧ wt' c = 1 + wt c1 ∧ plx d0 pl' 3 c = A + plx (aC 0) pl 3 c1)
def BefO (N n : Nat) (tx : Nat → Int32) (S Od nx fr nd no na nn nr : Nat) (o φ wt pl : Nat → Nat) (iT : Nat → Int32) (wT : Int64) (iB : Nat → Int32) (lB : Nat → Nat → Int64) (iC : Nat → Int32) (aC : Nat → Nat → Int32) (X : Nat → Int32) (Y : Nat → Nat → Int32) (d W x sz c1 K A : Nat) (v2 : Int32) : Prop := BefG N n tx S Od nx fr nd no na nn nr o φ wt pl iT wT iB lB iC aC X Y d W x sz c1 K A v2 ∨ (∃ (z : Int32 × Int32 × (Nat → Int32) × (Nat → Int32) × (Nat → Int32) × (Nat → Int32) × (Nat → Int32) × (Nat → Int32) × (Nat → Int32) × (Nat → Int32)) (X' : Nat → Int32) (Y' : Nat → Nat → Int32), f_C_make N (nI K) (nI c1) v2 (iC 4) (iC 9) (aC 0) (aC 1) (aC 2) (aC 3) (aC 5) (aC 6) (aC 7) (aC 8) = some (-1, z) ∧ (∀ oI oA f, f_M_stand_5 N oI oA (f + 2) X Y = some (X', Y')) ∧ X' 46 = nI 5 ∧ X' 47 = Y 12 (200 + x) ∧ FrI tc X X' ∧ FrA ta Y Y')
theorem bef_not {N n : Nat} {tx : Nat → Int32} {S Od nx fr nd no sz na nn nr : Nat} {o φ wt pl : Nat → Nat} {iT : Nat → Int32} {wT : Int64} {iB : Nat → Int32} {lB : Nat → Nat → Int64} {iC : Nat → Int32} {aC : Nat → Nat → Int32} {X : Nat → Int32} {Y : Nat → Nat → Int32} {d W x m j c1 : Nat} (hN : 100000 ≤ N) (P : PS n tx S Od nx fr nd no sz na nn nr o φ wt pl iT wT iB lB iC aC X Y) (h54 : X 54 = nI (W + 1)) (hW : W < 500) (h52 : Y 52 W = nI 2) (h53 : Y 53 W = nI (200 + x)) (hx : x < nd) (hxo : ∀ j, j < no → o j ≠ x) (h8 : Y 8 (200 + x) = nI 3) (h55 : X 55 = nI (200 + m)) (hj : j < no) (hm : o j = m) (hc : φ m = c1) (h49 : X 49 = nI (d + 1)) (hno : no < nd) (hsz : sz < nd) (hw : 1 + wt c1 ≤ nd) : BefG N n tx S Od nx fr nd no na nn nr o φ wt pl iT wT iB lB iC aC X Y d W x sz c1 3 4 (nI 0) := by
  obtain ⟨p46, PT, PM, PD⟩ := P
  have PD' := PD
  obtain ⟨n1, n2, n3, n4, n5, n6, n7, n8, n9, n10, n11, n12, n13, n14, n15, n16⟩ := PD'
  have PM' := PM
  obtain ⟨hnn, hnr, -⟩ := PM'
  have hcs : c1 < sz := by rw [← hc, ← hm]; exact (n12 j hj).2.2.1
  obtain ⟨c, sz', wt', pl', d0, d1, d2, d3, M1, M2, M3, M4, M5, M6, M7, M8, M9, M10⟩ := mk_pl (K := 3) (v1 := nI c1) (v2 := nI 0) hN (show sz < 200 by omega) hnn hnr n14 (by decide) (fun _ => ⟨c1, hcs, rfl⟩) (fun z => absurd z (by decide)) (fun z => absurd z (by decide)) (fun _ => rfl)
  obtain ⟨w1, w2⟩ := tr_bef (sz := sz) (c0 := aC 0) (wt := wt) (pl := pl) (A := 4) (K := 3) (by omega) M10 M4 hcs (Or.inl rfl) M7 M8 M9 ⟨fun _ => rfl, fun z => absurd z (by decide), fun z => absurd z (by decide)⟩ (fun a ha => ⟨(M6 a ha).1, (M6 a ha).2.2.2.2.1, (M6 a ha).2.2.2.2.2⟩)
  refine ⟨c, sz', na, wt', pl', d0, d1, d2, d3, aC 5, aC 6, aC 7, aC 8, us (us X [(39, nI (no + 1)), (49, nI d), (54, nI W)]) [(55, nI (200 + x))], us Y [(10, upd (Y 10) (200 + x) (nI (200 + m))), (13, upd (Y 13) (200 + no) (nI (200 + x)))], by rw [n8, n9]; exact M1, fun oI oA f => ?_, ⟨p46, PT, PM, ?_⟩, rfl, rfl, rfl, rfl, ?_, ?_, rfl, rfl, rfl, fun i hi => ⟨rfl, rfl, up_n hi, rfl, rfl⟩, M2, M3, M4, fun a ha => ⟨(M6 a ha).1, (M6 a ha).2.2.2.2.1, (M6 a ha).2.2.2.2.2⟩, w1, w2⟩
  · rw [f_M_stand_5, p46, M_fine0, Option.bind_some, if_neg i1z, h54, nI_pred, if_neg (nI_g (show W < 500 by omega) (by decide)), nI_cl (by omega), h52, if_pos (show nI 2 = (2 : Int32) from rfl), h53, if_neg (nI_g (show 200 + x < 400 by omega) (by decide)), nI_cl (by omega)]
    unfold f_M_ended
    rw [n7, show (200 : Int32) = nI 200 from rfl, nI_add, if_neg (nI_g (show 200 + no < 400 by omega) (by decide)), Option.bind_some, h8, if_pos (show nI 3 = (3 : Int32) from rfl), nI_cl (by omega), nI_m, h55, h49, nI_pred]
    rfl
  · refine NdS_end PD hx hxo hno M2 (by omega) n4 M4 M5 ⟨rfl, rfl⟩ M6 M10 ⟨rfl, rfl, rfl, n10⟩ (fun j hj => ⟨rfl, rfl, up_n (fun q => hxo j hj (by omega)), rfl, up_n (by have := n11 j hj; omega)⟩) up_s n13 ⟨3, by decide, h8, M7, fun z => absurd z (by decide), fun z => absurd z (by decide), fun z => absurd z (by decide), fun _ => ⟨j, hj, ?_, ?_⟩, fun z => absurd z (by decide)⟩ (by omega) (fun a ha => ?_)
    · show upd (Y 10) (200 + x) (nI (200 + m)) (200 + x) = _
      rw [up_s, hm]
    · rw [if_pos (by decide), hm, hc]; exact M8
    · obtain ⟨c', q1, q2, q3⟩ := n16 a ha
      obtain ⟨z0, z1, -⟩ := M6 c' q1
      exact ⟨c', by omega, by rw [← q2]; exact z0, by rw [← q3]; exact z1⟩
  · exact (fri_us rfl).trans (fri_us rfl)
  · refine fra_us rfl (low_cons (fun i hi => up_n ?_) (low_cons (fun i hi => up_n ?_) low_nil))
    · have : lowB 10 = 200 := rfl
      omega
    · have : lowB 13 = 200 := rfl
      omega
