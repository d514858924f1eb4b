theorem bef_qu {N n : Nat} {tx : Nat → Int32} {S Od nx fr nd no sz na nn nr : Nat} {o φ wt pl : Nat → Nat} {iT : Nat → Int32} {wT : Int64} {iB : Nat → Int32} {lB : Nat → Nat → Int64} {iC : Nat → Int32} {aC : Nat → Nat → Int32} {X : Nat → Int32} {Y : Nat → Nat → Int32} {d W x m j c1 K r A : Nat} (hN : 100000 ≤ N) (P : PS n tx S Od nx fr nd no sz na nn nr o φ wt pl iT wT iB lB iC aC X Y) (h54 : X 54 = nI (W + 1)) (hW : W < 500) (h52 : Y 52 W = nI 2) (h53 : Y 53 W = nI (200 + x)) (hx : x < nd) (hxo : ∀ j, j < no → o j ≠ x) (hK : K = 4 ∨ K = 5) (h8 : Y 8 (200 + x) = nI K) (h9 : Y 9 (200 + x) = nI r) (hr : r < nr) (h11 : Y 11 (200 + x) = -1) (hA : A = K + 2 + rlM Y r) (h55 : X 55 = nI (200 + m)) (hj : j < no) (hm : o j = m) (hc : φ m = c1) (h49 : X 49 = nI (d + 1)) (hno : no < nd) (hsz : sz < nd) (hw : 1 + wt c1 ≤ nd) : BefO N n tx S Od nx fr nd no na nn nr o φ wt pl iT wT iB lB iC aC X Y d W x sz c1 K A (nI r) := by
  obtain ⟨p46, PT, PM, PD⟩ := P
  have PD' := PD
  obtain ⟨n1, n2, n3, n4, n5, n6, n7, n8, n9, n10, n11, n12, n13, n14, n15, n16⟩ := PD'
  have PM' := PM
  obtain ⟨hnn, hnr, -⟩ := PM'
  have hcs : c1 < sz := by rw [← hc, ← hm]; exact (n12 j hj).2.2.1
  have hx2 : x < 200 := by omega
  -- the model's rows once the operand is known
  have H12 : RNd 200 no sz o φ (Y 8) (Y 9) (upd (Y 10) (200 + x) (nI (200 + m))) (Y 11) (upd (Y 13) (200 + no) (nI (200 + x))) (aC 0) (aC 1) (aC 2) (aC 3) := RNd_same n12 (fun _ _ => ⟨rfl, rfl, rfl, rfl⟩) (fun j hj => ⟨rfl, rfl, up_n (fun q => hxo j hj (by omega)), rfl, up_n (by have := n11 j hj; omega)⟩)
  obtain ⟨HC, HU, HA, HT, HE⟩ := n14
  obtain ⟨p, t, hk⟩ := Key_ex (K := K) HC hcs
  have hpt := Key_le hk
  have hoj : upd (Y 10) (200 + x) (nI (200 + m)) (200 + x) = nI (200 + o j) := by rw [up_s, hm]
  have hk' : KeyOf (aC 0) (aC 1) K (φ (o j)) p t := by rw [hm, hc]; exact hk
  obtain ⟨jp, jp1, jp2, jp3⟩ := fA_eq (nn := nn) (nr := nr) (N := N) (na := na) (k11 := Y 11) (k12 := Y 12) (m32 := Y 32) (m33 := Y 33) (m34 := Y 34) (m35 := Y 35) (a50 := Y 50) (a51 := Y 51) (i47 := X 47) (show sz ≤ 200 by omega) hx2 H12 hK h8 hj hoj hk'
  have tz : isZ (nI t) := by
    have : t = 0 ∨ t = 1 := by omega
    rcases this with e | e <;> (rw [e]; first | exact Or.inl rfl | exact Or.inr rfl)
  obtain ⟨s50, s51, q', F1, F2⟩ := fa_loop (N := N) (r := r) (t := t) (k12 := Y 12) (b11 := Y 11) (b50 := Y 50) (b51 := Y 51) (i47 := X 47) hN (show sz ≤ 200 by omega) n4 hnr hx2 H12 HC HU (WtE_of HC HE) (fun c hc => by have := n15 c hc; omega) n13 HA jp1 hr hpt.2 h9 na N 0 (Y 11) (Y 50) (Y 51) (by omega) (by omega) (Or.inr ⟨fun k h => absurd h (by omega), rfl⟩) h11
  have kn4 : ¬ K = 0 := by omega
  have G := mk_at (N := N) (K := K) (x := 200 + x) (v1 := nI c1) (v2 := nI r) (r := nI r) (nm := -1) (p := nI p) (t := nI t) (nd := nI (200 + o jp)) hN (show sz < 200 by omega) hnn hnr n4 ⟨HC, HU, HA, HT, HE⟩ (Or.inr hK) (fun _ => ⟨c1, hcs, rfl⟩) (fun z => absurd z kn4) (fun _ => ⟨r, hr, rfl⟩) (mk_quant (show sz < 200 by omega) HC hK hcs hk) (fun c hc q0 q1 q2 => by
    obtain ⟨y, l, p2, t2, b1, b2, b3, b4, b5, b6, b7, b8⟩ := (HT c hc).2 K hK q0
    have el : l = c1 := (nI_eq (by omega) (by omega)).mp (b3.symm.trans q1)
    rw [el] at b4
    obtain ⟨u1, u2⟩ := Key_un (by omega) hk b4
    refine ⟨y, b1, b5, b6.trans q2, ?_, by rw [b7, u1], by rw [b8, u2]⟩
    rcases (n13 y b1).2.2 with ⟨w5, -⟩ | ⟨r2, -, w5, w6, -⟩
    · rw [b6, q2] at w5; exact absurd w5 (nI_neg1 (by omega))
    · exact w6) (fun d5 d6 d7 d8 na' ka z1 z5 z6 z7 z8 => ⟨fun z => absurd z kn4, fun _ => ⟨ka, c1, p, t, z1, hcs, rfl, hk, rfl, z5, z7, z8⟩⟩) F2 (fun k hk => by
    constructor
    · rintro ⟨w5, w7, w8⟩
      refine ⟨w5, ?_, by rw [w7, jp2], w8⟩
      rcases (n13 k hk).2.2 with ⟨v5, -⟩ | ⟨r2, -, v5, v6, -⟩
      · rw [w5] at v5; exact absurd v5 (nI_neg1 (by omega))
      · exact v6
    · rintro ⟨w5, -, w7, w8⟩
      exact ⟨w5, by rw [w7, jp2], w8⟩)
  have nK3 : ¬ nI K = (3 : Int32) := fun z => by
    have : K = 3 := (nI_eq (b := 3) (by omega) (by omega)).mp z
    omega
  have core : ∀ (oI : Nat → Int32) (oA : Nat → Nat → Int32) (f : Nat), f_M_stand_5 N oI oA (f + 1) X Y = (q'.bind (fun z => some (z.1, z.2.1, z.2.2.1, z.2.2.2.1, z.2.2.2.2.1, z.2.2.2.2.2.1, z.2.2.2.2.2.2.1, z.2.2.2.2.2.2.2, s50, s51))).bind (fun q84 => f_M_stand_5 N oI oA f (us (us X [(39, nI (no + 1)), (45, q84.1), (46, q84.2.1), (47, q84.2.2.1), (49, nI d), (54, nI W)]) [(55, nI (200 + x))]) (us Y [(10, upd (Y 10) (200 + x) (nI (200 + m))), (11, q84.2.2.2.1), (13, upd (Y 13) (200 + no) (nI (200 + x))), (32, q84.2.2.2.2.1), (33, q84.2.2.2.2.2.1), (34, q84.2.2.2.2.2.2.1), (35, q84.2.2.2.2.2.2.2.1), (50, q84.2.2.2.2.2.2.2.2.1), (51, q84.2.2.2.2.2.2.2.2.2)])) := by
    intro oI oA f
    rw [f_M_stand_5, p46, M_fine0, Option.bind_some, if_neg i1z, h54, nI_pred, if_neg (nI_g (show W < 500 by omega) (by decide)), nI_cl (by omega), h52, if_pos (show nI 2 = (2 : Int32) from rfl), h53, if_neg (nI_g (show 200 + x < 400 by omega) (by decide)), nI_cl (by omega)]
    unfold f_M_ended
    rw [n7, show (200 : Int32) = nI 200 from rfl, nI_add, if_neg (nI_g (show 200 + no < 400 by omega) (by decide)), Option.bind_some, h8, if_neg nK3, nI_cl (by omega), nI_m, h55, n10, jp3, show (0 : Int32) = nI 0 from rfl]
    rw [show nI 0 = (0 : Int32) from rfl] at F1 ⊢
    rw [F1, h49, nI_pred]
    rfl
  rcases G with ⟨na', ka, d5, d6, d7, d8, l32, l33, l34, l35, q, c, sz', wt', pl', d0, d1, d2, d3, J, M, e3⟩ | ⟨g1, g2⟩
  · have J' := J
    obtain ⟨j1, j2, j3, j4, j5, ja, jm, jl, k5, k6, k7, k8, jU, jn⟩ := J'
    obtain ⟨M1, M2, M3, M4, M5, M6, M7, M8, M9, M10⟩ := M
    obtain ⟨w1, w2⟩ := tr_bef (sz := sz) (c0 := aC 0) (wt := wt) (pl := pl) (A := A) (K := K) (by omega) M10 M4 hcs (Or.inr hK) M7 M8 M9 ⟨fun z => by omega, fun z => by rw [hA, z, nI_cl (by omega)], fun z => by rw [hA, z, nI_cl (by omega)]⟩ (fun a ha => ⟨(M6 a ha).1, (M6 a ha).2.2.2.2.1, (M6 a ha).2.2.2.2.2⟩)
    refine Or.inl ⟨c, sz', na', wt', pl', d0, d1, d2, d3, d5, d6, d7, d8, us (us X [(39, nI (no + 1)), (45, nI na'), (46, 0), (47, X 47), (49, nI d), (54, nI W)]) [(55, nI (200 + x))], us Y [(10, upd (Y 10) (200 + x) (nI (200 + m))), (11, upd (Y 11) (200 + x) (nI ka)), (13, upd (Y 13) (200 + no) (nI (200 + x))), (32, l32), (33, l33), (34, l34), (35, l35), (50, s50), (51, s51)], by rw [n8, n9]; exact M1, fun oI oA f => ?_, ⟨rfl, PT, PM, ?_⟩, rfl, rfl, rfl, rfl, ?_, ?_, rfl, rfl, rfl, fun i hi => ⟨rfl, rfl, up_n hi, up_n hi, rfl⟩, M2, M3, M4, fun a ha => ⟨(M6 a ha).1, (M6 a ha).2.2.2.2.1, (M6 a ha).2.2.2.2.2⟩, w1, w2⟩
    · rw [core, j2]
      rfl
    · refine NdS_end PD hx hxo hno M2 (by omega) j5 M4 M5 ⟨rfl, rfl⟩ M6 M10 ⟨rfl, rfl, rfl, rfl⟩ (fun j hj => ⟨rfl, rfl, up_n (fun q => hxo j hj (by omega)), up_n (fun q => hxo j hj (by omega)), up_n (by have := n11 j hj; omega)⟩) up_s (AtR_j J n13 (Or.inr ⟨r, hr, rfl, rfl, jp, jp1, by rw [jp2], rfl, tz⟩)) ⟨K, by omega, h8, M7, fun z => absurd z kn4, fun _ => h9.trans M9.symm, fun _ => ?_, fun _ => ⟨j, hj, ?_, ?_⟩, fun z => absurd z (by omega)⟩ (by omega) (fun a ha => ?_)
      · show upd (Y 11) (200 + x) (nI ka) (200 + x) = _
        rw [up_s]; exact e3.symm
      · show upd (Y 10) (200 + x) (nI (200 + m)) (200 + x) = _
        rw [up_s, hm]
      · rw [if_pos (show K < 6 by omega), hm, hc]; exact M8
      · obtain ⟨c', q1, q2, q3⟩ := n16 a ha
        obtain ⟨z0, z1, -⟩ := M6 c' q1
        exact ⟨c', by omega, by rw [← q2]; exact z0, by rw [← q3]; exact z1⟩
    · exact (fri_us rfl).trans (fri_us rfl)
    · have b10 : lowB 10 = 200 := rfl
      have b11 : lowB 11 = 200 := rfl
      have b13 : lowB 13 = 200 := rfl
      have b32 : lowB 32 = 9 := rfl
      have b33 : lowB 33 = 9 := rfl
      have b34 : lowB 34 = 9 := rfl
      have b35 : lowB 35 = 9 := rfl
      have b50 : lowB 50 = 0 := rfl
      have b51 : lowB 51 = 0 := rfl
      exact fra_us rfl (low_cons (fun i hi => up_n (by omega)) (low_cons (fun i hi => up_n (by omega)) (low_cons (fun i hi => up_n (by omega)) (low_cons (fun i hi => (jl i (by omega)).1) (low_cons (fun i hi => (jl i (by omega)).2.1) (low_cons (fun i hi => (jl i (by omega)).2.2.1) (low_cons (fun i hi => (jl i (by omega)).2.2.2) (low_cons (fun i hi => by omega) (low_cons (fun i hi => by omega) low_nil)))))))))
  · refine Or.inr ⟨_, us (us (us X [(39, nI (no + 1)), (45, nI na), (46, 5), (47, Y 12 (200 + x)), (49, nI d), (54, nI W)]) [(55, nI (200 + x))]) [(56, 0)], us Y [(10, upd (Y 10) (200 + x) (nI (200 + m))), (11, Y 11), (13, upd (Y 13) (200 + no) (nI (200 + x))), (32, Y 32), (33, Y 33), (34, Y 34), (35, Y 35), (50, s50), (51, s51)], by rw [n8, n9]; exact g2, fun oI oA f => ?_, rfl, rfl, ?_, ?_⟩
    · rw [core, g1, Option.bind_some, Option.bind_some, f_M_stand_5]
      rfl
    · exact ((fri_us rfl).trans (fri_us rfl)).trans (fri_us rfl)
    · have b10 : lowB 10 = 200 := rfl
      have b13 : lowB 13 = 200 := rfl
      have b50 : lowB 50 = 0 := rfl
      have b51 : lowB 51 = 0 := rfl
      exact fra_us rfl (low_cons (fun i hi => up_n (by omega)) (low_cons (fun i hi => rfl) (low_cons (fun i hi => up_n (by omega)) (low_cons (fun i hi => rfl) (low_cons (fun i hi => rfl) (low_cons (fun i hi => rfl) (low_cons (fun i hi => rfl) (low_cons (fun i hi => by omega) (low_cons (fun i hi => by omega) low_nil)))))))))
