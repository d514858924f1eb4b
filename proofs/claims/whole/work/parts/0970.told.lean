/-! the told book, of both: what is kept from call to call -/
def Told (N : Nat) (iB : Nat → Int32) (lB : Nat → Nat → Int64) (aB : Nat → Nat → Int32) (iC : Nat → Int32) (aC : Nat → Nat → Int32) (iK : Nat → Int32) (lK : Nat → Nat → Int64) (aK : Nat → Nat → Int32) (iM : Nat → Int32) (aM : Nat → Nat → Int32) : Prop := ∃ (n nn nr S rc qc sz no ns : Nat) (o φ wt pl tl : Nat → Nat), (n ≤ 9 ∧ nn ≤ 5 ∧ nr ≤ 3 ∧ rc ≤ 12 ∧ qc ≤ 12 ∧ sz ≤ 200 ∧ no ≤ 200 ∧ ns ≤ 246) ∧ (iB 1 = nI no ∧ iM 14 = nI no ∧ iB 3 = nI nn ∧ iM 25 = nI nn ∧ iB 5 = nI nr ∧ iM 28 = nI nr ∧ iB 7 = nI ns ∧ iM 18 = nI ns ∧ iB 9 = nI rc ∧ iM 20 = nI rc ∧ iB 11 = nI qc ∧ iM 22 = nI qc ∧ iB 13 = nI S ∧ iC 4 = nI sz ∧ iC 9 = nI n ∧ iM 36 = nI n) ∧ CNd sz nn nr n (aC 0) (aC 1) (aC 2) (aC 3) ∧ RNd 0 no sz o φ (aM 8) (aM 9) (aM 10) (aM 11) (aM 13) (aC 0) (aC 1) (aC 2) (aC 3) ∧ AtR 0 0 n no nn nr o φ (aC 5) (aC 6) (aC 7) (aC 8) (aM 32) (aM 33) (aM 34) (aM 35) ∧ RuS 0 0 0 rc no ns o φ (aB 8) (aM 19) (aM 15) (aM 16) (aM 17) ∧ StS 0 0 ns no nr o φ wt pl (fun r => (aM 27 r).toNatClampNeg) tl (aB 6) (aM 15) (aM 16) (aM 17) ∧ NmW 0 0 nn (lB 2) (aM 23) (aM 24) ∧ NmW 0 0 nr (lB 4) (aM 26) (aM 27) ∧ (∀ c, c < sz → TrE (aC 0) (aC 1) (aC 2) wt pl (fun a => (aM 24 a).toNatClampNeg) (fun a => (aM 27 a).toNatClampNeg) c) ∧ (tl 0 = 0 ∧ tl ns ≤ 2670 ∧ ∀ s, s ≤ ns → tl s ≤ tl ns) ∧ KRl N n nn nr S rc qc sz (aC 0) (aC 1) (aC 2) (aC 5) (aB 8) (aB 10) iK lK aK (iM 64) (iM 65) (aM 15) (aM 16) (aM 17) (aM 19) (aM 21) (aM 29) (aM 33) (aM 57) (aM 58) (aM 59) (aM 60) (aM 61) (aM 62)
/-! a reading that fails leaves it -/
theorem RNd_fr {no sz : Nat} {o φ : Nat → Nat} {k8 k9 k10 k11 k13 x8 x9 x10 x11 x13 c0 c1 c2 c3 : Nat → Int32} (hno : no ≤ 200) (e : ∀ i, i < 200 → x8 i = k8 i ∧ x9 i = k9 i ∧ x10 i = k10 i ∧ x11 i = k11 i ∧ x13 i = k13 i) (H : RNd 0 no sz o φ k8 k9 k10 k11 k13 c0 c1 c2 c3) : RNd 0 no sz o φ x8 x9 x10 x11 x13 c0 c1 c2 c3 := by
  intro j hj
  obtain ⟨h1, h2, h3, K, k1, k2, k3, k4, k5, k6, k7, k8'⟩ := H j hj
  obtain ⟨f8, f9, f10, f11, -⟩ := e (0 + o j) (by omega)
  obtain ⟨-, -, -, -, f13⟩ := e (0 + j) (by omega)
  exact ⟨h1, f13.trans h2, h3, K, k1, f8.trans k2, k3, fun z => f9.trans (k4 z), fun z => f9.trans (k5 z), fun z => f11.trans (k6 z), fun z => by obtain ⟨i, i1, i2, i3⟩ := k7 z; exact ⟨i, i1, f10.trans i2, i3⟩, fun z => by obtain ⟨i, i1, i2, i3⟩ := k8' z; exact ⟨i, i1, f9.trans i2, i3⟩⟩
theorem AtR_fr {n no nn nr : Nat} {o φ : Nat → Nat} {c5 c6 c7 c8 k32 k33 k34 k35 x32 x33 x34 x35 : Nat → Int32} (hn : n ≤ 9) (e : ∀ i, i < 9 → x32 i = k32 i ∧ x33 i = k33 i ∧ x34 i = k34 i ∧ x35 i = k35 i) (H : AtR 0 0 n no nn nr o φ c5 c6 c7 c8 k32 k33 k34 k35) : AtR 0 0 n no nn nr o φ c5 c6 c7 c8 x32 x33 x34 x35 := by
  intro k hk
  obtain ⟨h1, h2, h3⟩ := H k hk
  obtain ⟨f32, f33, f34, f35⟩ := e (0 + k) (by omega)
  refine ⟨f32.trans h1, f33.trans h2, ?_⟩
  rcases h3 with h | ⟨r, r1, r2, r3, j, j1, j2, j3, j4, j5⟩
  · exact Or.inl h
  · exact Or.inr ⟨r, r1, r2, r3, j, j1, j2, f34.trans j3, f35.trans j4, j5⟩
theorem RuS_fr {rc no ns : Nat} {o φ : Nat → Nat} {cr mr xr s15 s16 s17 x15 x16 x17 : Nat → Int32} (hrc : rc ≤ 12) (hns : ns ≤ 246) (er : ∀ i, i < 12 → xr i = mr i) (e : ∀ i, i < 250 → x15 i = s15 i ∧ x16 i = s16 i ∧ x17 i = s17 i) (H : RuS 0 0 0 rc no ns o φ cr mr s15 s16 s17) : RuS 0 0 0 rc no ns o φ cr xr x15 x16 x17 := by
  intro k hk
  obtain ⟨so, sy, j1, j2, h1, h2, h3, h4, h5, h6, h7, h8, h9⟩ := H k hk
  obtain ⟨f15, f16, f17⟩ := e (0 + sy) (by omega)
  exact ⟨so, sy, j1, j2, h1, h2, h3, h4, h5, (er _ (by omega)).trans h6, f15.trans h7, f16.trans h8, f17.trans h9⟩
theorem StS_fr {ns no nr : Nat} {o φ wt pl tl rl rl' : Nat → Nat} {cs s15 s16 s17 x15 x16 x17 : Nat → Int32} (hns : ns ≤ 246) (er : ∀ r, r < nr → rl' r = rl r) (e : ∀ i, i < 250 → x15 i = s15 i ∧ x16 i = s16 i ∧ x17 i = s17 i) (H : StS 0 0 ns no nr o φ wt pl rl tl cs s15 s16 s17) : StS 0 0 ns no nr o φ wt pl rl' tl cs x15 x16 x17 := by
  intro s hs
  obtain ⟨f15, f16, f17⟩ := e (0 + s) (by omega)
  rw [f15, f16, f17]
  rcases H s hs with h | h | ⟨r, r', a1, a2, a4, a5, a6, a7, a10⟩ | ⟨r, a1, a4, a5, a6, a10⟩
  · exact Or.inl h
  · exact Or.inr (Or.inl h)
  · exact Or.inr (Or.inr (Or.inl ⟨r, r', a1, a2, a4, a5, a6, a7, by rw [er r a1, er r' a2]; exact a10⟩))
  · exact Or.inr (Or.inr (Or.inr ⟨r, a1, a4, a5, a6, by rw [er r a1]; exact a10⟩))
theorem NmW_fr {nn : Nat} {lw : Nat → Int64} {a23 a24 x23 x24 : Nat → Int32} (e24 : ∀ i, i < nn → x24 i = a24 i) (e23 : ∀ i, i < 8 * nn → x23 i = a23 i) (H : NmW 0 0 nn lw a23 a24) : NmW 0 0 nn lw x23 x24 := by
  intro k hk
  obtain ⟨n, n1, n8, h1, h2, h3⟩ := H k hk
  have e : ∀ i, i < n → x23 (0 + 8 * k + i) = a23 (0 + 8 * k + i) := fun i hi => e23 _ (by omega)
  exact ⟨n, n1, n8, (e24 _ (by omega)).trans h1, fun i hi => by rw [e i hi]; exact h2 i hi, by rw [h3, pkb_congr n e]⟩
theorem RRu_fr {n rc no ns : Nat} {o φ : Nat → Nat} {cr mr xr s15 s16 s17 x15 x16 x17 is : Nat → Int32} {tr : Nat → Int64} (hns : ns ≤ 246) (er : ∀ i, i < 12 → xr i = mr i) (e : ∀ i, i < 250 → x15 i = s15 i ∧ x16 i = s16 i ∧ x17 i = s17 i) (HR : RuS 0 0 0 rc no ns o φ cr mr s15 s16 s17) (H : RRu n rc cr mr s15 s16 s17 is tr) : RRu n rc cr xr x15 x16 x17 is tr := by
  obtain ⟨h12, H⟩ := H
  refine ⟨h12, fun k hk => ?_⟩
  obtain ⟨so, c1, c2, m1, m2, sy, h1, h2, h3, h4, h5, h6, h7, h8, h9, h10, h11, h13, h14⟩ := H k hk
  obtain ⟨-, sy', -, -, -, g2, -, -, -, g6, -⟩ := HR k hk
  rw [Nat.zero_add] at g6
  have es : sy = sy' := (nI_eq (by omega) (by omega)).mp (h8.symm.trans g6)
  obtain ⟨f15, f16, f17⟩ := e sy (by omega)
  exact ⟨so, c1, c2, m1, m2, sy, h1, h2, h3, h4, h5, h6, h7, (er k (by omega)).trans h8, f15.trans h9, f16.trans h10, f17.trans h11, h13, h14⟩
theorem RKd_fr {n nr S : Nat} {c5 k5 k6 m60 m59 m29 x29 : Nat → Int32} {pt : Nat → Int64} {ax : Nat → Int32} (e : ∀ r, r < 3 → x29 r = m29 r) (H : RKd n nr S c5 k5 k6 m60 m59 m29 pt ax) : RKd n nr S c5 k5 k6 m60 m59 x29 pt ax := by
  obtain ⟨h1, h2, h3, h4, h5, h6, h7, h8⟩ := H
  exact ⟨h1, h2, h3, h4, h5, h6, h7, fun r hr => (e r (by omega)).trans (h8 r hr)⟩
theorem RAsk_fr {n k : Nat} {cq mq xq is : Nat → Int32} {tr : Nat → Int64} (hk : k ≤ 12) (e : ∀ i, i < 12 → xq i = mq i) (H : RAsk n k cq mq tr is) : RAsk n k cq xq tr is := by
  intro j hj
  obtain ⟨c, m, h1, h2, h3, h4, h5⟩ := H j hj
  exact ⟨c, m, h1, h2, h3, (e j (by omega)).trans h4, h5⟩
theorem RNm_fr {n nn sz : Nat} {f0 f1 f2 mn xn : Nat → Int32} {tr : Nat → Int64} (hn : n ≤ 9) (e : ∀ i, i < 9 → xn i = mn i) (H : RNm n nn sz f0 f1 f2 mn tr) : RNm n nn sz f0 f1 f2 xn tr := by
  intro a ha
  obtain ⟨h1, x, h2, h3, h4, h5⟩ := H a ha
  exact ⟨h1, x, h2, (e x (by omega)).trans h3, fun k hk => by rw [e k (by omega)]; exact h4 k hk, h5⟩
theorem Told.fr {N : Nat} {iB : Nat → Int32} {lB : Nat → Nat → Int64} {aB : Nat → Nat → Int32} {iC : Nat → Int32} {aC : Nat → Nat → Int32} {iK : Nat → Int32} {lK : Nat → Nat → Int64} {aK : Nat → Nat → Int32} {iM X : Nat → Int32} {aM Y : Nat → Nat → Int32} (hI : FrI tcs iM X) (hA : FrA tas aM Y) (H : Told N iB lB aB iC aC iK lK aK iM aM) : Told N iB lB aB iC aC iK lK aK X Y := by
  obtain ⟨n, nn, nr, S, rc, qc, sz, no, ns, o, φ, wt, pl, tl, ⟨b1, b2, b3, b4, b5, b6, b7, b8⟩, ⟨p1, p2, p3, p4, p5, p6, p7, p8, p9, p10, p11, p12, p13, p14, p15, p16⟩, HC, HR, HA, HU, HS, HN, HL, HT, HX, HK⟩ := H
  have w15 : ∀ i, i < 250 → Y 15 i = aM 15 i ∧ Y 16 i = aM 16 i ∧ Y 17 i = aM 17 i := fun i hi => ⟨hA.2 15 i (by have : lowB 15 = 250 := rfl; omega), hA.2 16 i (by have : lowB 16 = 250 := rfl; omega), hA.2 17 i (by have : lowB 17 = 250 := rfl; omega)⟩
  have w19 : ∀ i, i < 12 → Y 19 i = aM 19 i := fun i hi => hA.2 19 i (by have : lowB 19 = 12 := rfl; omega)
  have w21 : ∀ i, i < 12 → Y 21 i = aM 21 i := fun i hi => hA.2 21 i (by have : lowB 21 = 12 := rfl; omega)
  have w24 : ∀ i, i < 5 → Y 24 i = aM 24 i := fun i hi => hA.2 24 i (by have : lowB 24 = 5 := rfl; omega)
  have w27 : ∀ i, i < 3 → Y 27 i = aM 27 i := fun i hi => hA.2 27 i (by have : lowB 27 = 3 := rfl; omega)
  have w29 : ∀ i, i < 3 → Y 29 i = aM 29 i := fun i hi => hA.2 29 i (by have : lowB 29 = 3 := rfl; omega)
  have w33 : ∀ i, i < 9 → Y 33 i = aM 33 i := fun i hi => hA.2 33 i (by have : lowB 33 = 9 := rfl; omega)
  refine ⟨n, nn, nr, S, rc, qc, sz, no, ns, o, φ, wt, pl, tl, ⟨b1, b2, b3, b4, b5, b6, b7, b8⟩, ⟨p1, (hI 14 rfl).trans p2, p3, (hI 25 rfl).trans p4, p5, (hI 28 rfl).trans p6, p7, (hI 18 rfl).trans p8, p9, (hI 20 rfl).trans p10, p11, (hI 22 rfl).trans p12, p13, p14, p15, (hI 36 rfl).trans p16⟩, HC, ?_, ?_, ?_, ?_, ?_, ?_, ?_, HX, ?_⟩
  · exact RNd_fr b7 (fun i hi => ⟨hA.2 8 i (by have : lowB 8 = 200 := rfl; omega), hA.2 9 i (by have : lowB 9 = 200 := rfl; omega), hA.2 10 i (by have : lowB 10 = 200 := rfl; omega), hA.2 11 i (by have : lowB 11 = 200 := rfl; omega), hA.2 13 i (by have : lowB 13 = 200 := rfl; omega)⟩) HR
  · exact AtR_fr b1 (fun i hi => ⟨hA.2 32 i (by have : lowB 32 = 9 := rfl; omega), w33 i hi, hA.2 34 i (by have : lowB 34 = 9 := rfl; omega), hA.2 35 i (by have : lowB 35 = 9 := rfl; omega)⟩) HA
  · exact RuS_fr b4 b8 w19 w15 HU
  · exact StS_fr b8 (fun r hr => by show (Y 27 r).toNatClampNeg = _; rw [w27 r (by omega)]) w15 HS
  · exact NmW_fr (fun i hi => w24 i (by omega)) (fun i hi => hA.2 23 i (by have : lowB 23 = 40 := rfl; omega)) HN
  · exact NmW_fr (fun i hi => w27 i (by omega)) (fun i hi => hA.2 26 i (by have : lowB 26 = 24 := rfl; omega)) HL
  · intro c hc
    exact TrE_same b6 b2 b3 HC hc (fun c _ => ⟨rfl, rfl, rfl, rfl, rfl⟩) (fun a ha => by show (Y 24 a).toNatClampNeg = _; rw [w24 a (by omega)]) (fun r hr => by show (Y 27 r).toNatClampNeg = _; rw [w27 r (by omega)]) (HT c hc)
  · obtain ⟨RA, sd0, own, k1, k2, k3, k4, k5, k6, k7, ⟨k8, k9, k10⟩, k11, k12, k13, k14, k15⟩ := HK
    rw [hI 64 rfl, hI 65 rfl, hA.1 57 rfl, hA.1 58 rfl, hA.1 59 rfl, hA.1 60 rfl, hA.1 61 rfl, hA.1 62 rfl]
    exact ⟨RA, sd0, own, k1, k2, k3, k4, k5, k6, k7, ⟨RKd_fr w29 k8, k9, RRu_fr b8 w19 w15 HU k10⟩, k11, k12, k13, RAsk_fr b5 w21 k14, RNm_fr b1 w33 k15⟩
/-- a reading without fault: the new book is told -/
theorem told_new {N n : Nat} {tx : Nat → Int32} {S Od G nx fr nd no sz na nn nr ns rc qc : Nat} {o φ wt pl tl : Nat → Nat} {iT : Nat → Int32} {wT : Int64} {iB : Nat → Int32} {lB : Nat → Nat → Int64} {aB : Nat → Nat → Int32} {iC : Nat → Int32} {aC : Nat → Nat → Int32} {iM : Nat → Int32} {aM : Nat → Nat → Int32} {iK : Nat → Int32} {lK : Nat → Nat → Int64} {aK : Nat → Nat → Int32} (hN : 100000 ≤ N) (B : BkS n tx S Od G nx fr nd no sz na nn nr ns rc qc o φ wt pl tl iT wT iB lB aB iC aC iM aM) : ∃ (iK' : Nat → Int32) (lK' : Nat → Nat → Int64) (aK' : Nat → Nat → Int32) (X : Nat → Int32) (Y : Nat → Nat → Int32), f_K_workOut N iK lK aK iB lB aB iC aC = some (iK', lK', aK') ∧ f_M_become N (us iM [(1, 0), (48, -1)]) aM = some (X, Y) ∧ Told N iB lB aB iC aC iK' lK' aK' X Y ∧ iB 1 = X 14 ∧ X 1 = 0 ∧ X 48 = -1 ∧ X 37 = 1 ∧ X 66 = 0 ∧ X 68 = 0 ∧ X 73 = iM 73 ∧ Y 72 = aM 72 ∧ Y 7 = aM 7 := by
  obtain ⟨P, ⟨g1, g2, g3, g4, g5⟩, ⟨i13, i14, i7, m40, i9, m41, i11, m42, r12, q12⟩, HC, HM, HR, HQ, HS, ⟨tl0, tlm, cn1, cn2⟩⟩ := B
  obtain ⟨p46, ⟨t1, t2, t3, t4, t5, t6, tR, tW, tT⟩, ⟨hnn, hnr, b3, b5, m43, m44, W1, W2, W3, W4⟩, ⟨n1, n2, n3, n4, n5, n6, n7, n8, n9, n10, n11, n12, n13, ⟨C1, C2, C3, C4, C5⟩, n15, n16⟩⟩ := P
  have hn := tR.1
  have hfr : fr ≤ n := Nat.le_trans tT.1 tT.2.1
  have hns : ns ≤ 246 := by omega
  subst g1
  obtain ⟨x, e1, B⟩ := become_eq (N := N) (no := no) (ns := ns) (iM := us iM [(1, 0), (48, -1)]) (aM := aM) hN n1 (by omega) n6 m40
  have ho2 : ∀ j, j < no → o j < 200 := fun j hj => by have := n11 j hj; omega
  have R1 := RNd_mv n1 B n11 n12
  have R2 := AtR_mv n4 B ho2 n13
  have R3 := RuS_mv r12 B ho2 HR
  have R4 := QuS_mv q12 B ho2 HQ
  have R5 := StS_mv hnr B ho2 HS
  obtain ⟨B0, b8', b9', b10', b11', b13', b15', b16', b17', b19', b21', b23', b26', b24', b27', b29', b30', b32', b33', b34', b35'⟩ := B
  have R6 : NmW 0 0 nn (lB 2) (x 23) (x 24) := NmW_mv (fun i hi => by rw [b24', if_pos (by omega)]) (fun i hi => by rw [b23', if_pos (by omega)]) W1
  have R7 : NmW 0 0 nr (lB 4) (x 26) (x 27) := NmW_mv (fun i hi => by rw [b27', if_pos (by omega)]) (fun i hi => by rw [b26', if_pos (by omega)]) W2
  have R8 : ∀ r, r < nr → x 29 r = if S.testBit r = true then 1 else 0 := fun r hr => by
    rw [b29', if_pos (by omega), (W3 r hr).1]
    cases S.testBit r <;> decide
  have R9 : UnM 0 G (x 30) := fun k hk => by
    rw [Nat.zero_add, b30', if_pos hk, HM k hk, b2i_n]
  have R10 := NmC_of n16 C4 C3 n13
  obtain ⟨iK', lK', aK', i64, i65, is, ax, m59, m60, m61, m62, m63, w1, w2, w3⟩ := wk_eq (N := N) (n := na) (nn := nn) (nr := nr) (S := S) (rc := rc) (qc := qc) (sz := sz) (no := no) (ns := ns) (iK := iK) (lK := lK) (aK := aK) (lB := lB) (iM := us (us (us (us (us iM [(1, 0), (48, -1)]) [(14, nI no)]) [(18, nI ns)]) [(20, us iM [(1, 0), (48, -1)] 41), (22, us iM [(1, 0), (48, -1)] 42), (25, us iM [(1, 0), (48, -1)] 43), (28, us iM [(1, 0), (48, -1)] 44), (36, us iM [(1, 0), (48, -1)] 45)]) [(37, (1 : Int32)), (66, (0 : Int32)), (68, (0 : Int32))]) (aM := x) (bl := clo G) hN n4 hnn hnr (by omega) n1 (by omega) r12 g4 n8 n9 i9 i13 rfl m41 m44 n10 R1 C1 R2 R3 R4 R10 (fun r s hr hs => under_B hr hs HC) (fun r s hr hs => below_M hN hr hs R9) R8
  rw [w2, Option.bind_some] at e1
  refine ⟨iK', lK', aK', _, _, w1, e1, ⟨na, nn, nr, S, rc, qc, sz, no, ns, o, φ, wt, pl, tl, ⟨n4, hnn, hnr, r12, q12, by omega, n1, hns⟩, ⟨n5, rfl, b3, m43, b5, m44, i7, rfl, i9, m41, i11, m42, i13, n8, n9, n10⟩, C1, R1, R2, R3, R5, R6, R7, fun c hc => TrE_same (by omega) hnn hnr C1 hc (fun c _ => ⟨rfl, rfl, rfl, rfl, rfl⟩) (fun a ha => ?_) (fun r hr => ?_) (C5 c hc), ⟨tl0, by omega, ?_⟩, w3⟩, n5, rfl, rfl, rfl, rfl, rfl, rfl, ?_, ?_⟩
  · show (x 24 a).toNatClampNeg = (aM 24 (5 + a)).toNatClampNeg
    rw [b24', if_pos (by omega)]
  · show (x 27 r).toNatClampNeg = (aM 27 (3 + r)).toNatClampNeg
    rw [b27', if_pos (by omega)]
  · intro s hs
    have : ∀ d s, s + d = ns → tl s ≤ tl ns := by
      intro d
      induction d with
      | zero => intro s h; rw [show s = ns by omega]; exact Nat.le_refl _
      | succ d ih => intro s h; exact Nat.le_trans (tlm s (by omega)) (ih (s + 1) (by omega))
    exact this (ns - s) s (by omega)
  · exact B0 72 (by decide) (by decide) (by decide) (by decide) (by decide) (by decide) (by decide) (by decide) (by decide) (by decide) (by decide) (by decide) (by decide) (by decide) (by decide) (by decide) (by decide) (by decide) (by decide) (by decide)
  · exact B0 7 (by decide) (by decide) (by decide) (by decide) (by decide) (by decide) (by decide) (by decide) (by decide) (by decide) (by decide) (by decide) (by decide) (by decide) (by decide) (by decide) (by decide) (by decide) (by decide) (by decide)
