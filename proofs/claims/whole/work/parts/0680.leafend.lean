/-! a leaf's end, of both -/
theorem nn_new {K i47 : Int32} {nd fr : Nat} {a8 a9 a10 a11 a12 : Nat → Int32} (h : nd < 200) : f_M_newNode K (nI fr) (nI nd) 0 i47 a8 a9 a10 a11 a12 = some (nI (200 + nd), nI (nd + 1), 0, i47, upd a8 (200 + nd) K, upd a9 (200 + nd) (-1), upd a10 (200 + nd) (-1), upd a11 (200 + nd) (-1), upd a12 (200 + nd) (nI fr)) := by
  unfold f_M_newNode
  rw [if_neg (fun z => by have := (nI_eq (a := nd) (b := 200) (by omega) (by omega)).mp z; omega), show (200 : Int32) = nI 200 from rfl, nI_add, if_neg (nI_g (show 200 + nd < 400 by omega) (by decide)), nI_cl (by omega), nI_m]
theorem nn_full {K i47 : Int32} {fr : Nat} {a8 a9 a10 a11 a12 : Nat → Int32} : f_M_newNode K (nI fr) (nI 200) 0 i47 a8 a9 a10 a11 a12 = some (200, nI 200, 3, nI fr, a8, a9, a10, a11, a12) := by
  unfold f_M_newNode
  rw [if_pos (show nI 200 = (200 : Int32) from rfl), M_wrong0, Option.bind_some]
theorem r54n {N : Nat} {iM : Nat → Int32} {aM : Nat → Nat → Int32} : f_M_readOne_54 N iM aM (-1) = f_M_readOne_105 N iM aM (-1) (nI 0) := by
  unfold f_M_readOne_54
  rw [if_neg (by decide), if_neg (by decide), if_neg (by decide), if_neg (by decide), if_neg (by decide)]
  rfl
def kdq : List Nat := [0, 0, 0, 0, 0, 3, 4, 5, 1, 2]
theorem r54 {N i : Nat} {iM : Nat → Int32} {aM : Nat → Nat → Int32} (h5 : 5 ≤ i) (h10 : i < 10) : f_M_readOne_54 N iM aM (nI i) = f_M_readOne_105 N iM aM (nI i) (nI (kdq.getD i 0)) := by
  unfold f_M_readOne_54
  have : i = 5 ∨ i = 6 ∨ i = 7 ∨ i = 8 ∨ i = 9 := by omega
  rcases this with e | e | e | e | e
  · rw [e, if_pos (by decide)]; rfl
  · rw [e, if_neg (by decide), if_pos (by decide)]; rfl
  · rw [e, if_neg (by decide), if_neg (by decide), if_pos (by decide)]; rfl
  · rw [e, if_neg (by decide), if_neg (by decide), if_neg (by decide), if_pos (by decide)]; rfl
  · rw [e, if_neg (by decide), if_neg (by decide), if_neg (by decide), if_neg (by decide), if_pos (by decide)]; rfl
theorem word_gap {n nx fr p : Nat} {tx : Nat → Int32} {c4 m3 m5 m6 : Int32} {w : Int64} (T : Tok n tx nx fr c4 w m3 m5 m6) (hp : p ≤ fr) (ha : p < n → an (tx p) = false) (h3 : m3 = 1) : p + 1 ≤ fr := by
  obtain ⟨t1, t2, t3⟩ := T
  rcases t3 with ⟨a1, a2, a3, a4, a5⟩ | ⟨a1, a2, s', hs', a3, a4, a5⟩ | ⟨a1, a2, a3, a4⟩ | ⟨sz, a1, a2, a3, a4, a5, a6, a7, a8, a9, a10, a11⟩
  · rw [h3] at a5; exact absurd a5 (by decide)
  · rw [h3] at a4; exact absurd a4 (by decide)
  · rw [h3] at a4; exact absurd a4 (by decide)
  · by_cases e : p = fr
    · rw [← e] at a8; exact tf a8 (ha (by omega))
    · omega
theorem bind_eta {α β γ : Type} {o : Option (α × β)} {g : α × β → Option γ} : (o.bind (fun q => some (q.1, q.2))).bind g = o.bind g := by
  cases o <;> rfl
theorem leaf_end {N n : Nat} {tx : Nat → Int32} {S Od d W nx fr nd no sz nn nr na' nn' nr' sz' c len : Nat} {o φ wt pl wt' pl' : Nat → Nat} {iT : Nat → Int32} {wT : Int64} {iB iB' : Nat → Int32} {lB' : Nat → Nat → Int64} {iC' : Nat → Int32} {aC aC' : Nat → Nat → Int32} {iM X1 : Nat → Int32} {aM Y1 : Nat → Nat → Int32} (hN : 100000 ≤ N) (hnd : nd < 200) (hTk : TkS n tx nx fr iT wT iM aM) (hw40 : ¬ wT = lN 40) (ha : nx < n → an (tx nx) = false) (hlen : nx = fr + len) (h1 : 1 ≤ len) (k46 : X1 46 = 0) (k1 : X1 1 = nI n ∧ X1 2 = nI nx ∧ Y1 0 = aM 0 ∧ Y1 7 = wordsM ∧ X1 39 = nI no) (hF : FrI tc iM X1) (hFA : FrA ta aM Y1) (k54 : X1 54 = nI W) (k49 : X1 49 = nI d) (k5 : Y1 52 = aM 52 ∧ Y1 53 = aM 53) (krow : ∀ m, m < nd → Y1 8 (200 + m) = aM 8 (200 + m) ∧ Y1 9 (200 + m) = aM 9 (200 + m) ∧ Y1 10 (200 + m) = aM 10 (200 + m) ∧ Y1 11 (200 + m) = aM 11 (200 + m) ∧ Y1 12 (200 + m) = aM 12 (200 + m)) (hNm : NmS nn' nr' S Od iB' lB' X1 Y1) (hND : NdS (nd + 1) (no + 1) sz' na' nn' nr' (oAd o no nd) (φAd φ nd c) wt' pl' iB' iC' aC' (us X1 [(39, nI (no + 1))]) (us Y1 [(13, upd (Y1 13) (200 + no) (nI (200 + nd)))])) (hno : no ≤ nd) (hoo : ∀ j, j < no → o j < nd) (hs1 : sz ≤ sz') (hs2 : sz' ≤ sz + 1) (hcc : ∀ a, a < sz → aC' 0 a = aC 0 a ∧ wt' a = wt a ∧ pl' a = pl a) (hiB : ∀ j, j ≠ 1 → j ≠ 3 → j ≠ 5 → iB' j = iB j) (hw1 : wt' c = 1) (hp1 : plx (aC' 0) pl' 3 c = len) (hnn : nn ≤ nn') (hnr : nr ≤ nr') (hrl : ∀ r, r < nr → rlM Y1 r = rlM aM r) : ∃ (nx' fr' : Nat) (c4' : Int32) (w' : Int64) (X : Nat → Int32) (Y : Nat → Nat → Int32) (oI : Nat → Int32) (oA : Nat → Nat → Int32), f_T_step N (iT 1) (iT 2) (iT 3) (iT 4) wT tx = some (nI nx', nI fr', c4', w') ∧ OkD n tx S Od d W fr nd no sz nn nr o φ wt pl wT iB aC iM aM c nd nx' fr' (nd + 1) (no + 1) sz' na' nn' nr' (oAd o no nd) (φAd φ nd c) wt' pl' (us iT [(2, nI nx'), (3, nI fr'), (4, c4')]) w' iB' lB' iC' aC' X Y ∧ 1 + fr ≤ fr' ∧ f_M_readOne_182 N iM aM (nI (200 + nd)) X1 Y1 = (f_M_stand_5 N oI oA N X Y).bind (fun q => some (q.1, q.2)) := by
  obtain ⟨t1, t2, t3, t4, t5, t6, tR, tW, tT⟩ := hTk
  obtain ⟨k1a, k1b, k1c, k1d, k1e⟩ := k1
  have hn := tR.1
  obtain ⟨fr', nx', c4', w', k3', k5', k6', s1, s2, s3, s4⟩ := tok_step (N := N) (o3 := nI fr) (o4 := iT 4) (m3 := X1 3) (m4 := X1 4) (m5 := X1 5) (m6 := X1 6) (ow := wT) hN tR tT.2.1
  refine ⟨nx', fr', c4', w', us (us X1 [(2, nI nx'), (3, k3'), (4, nI fr'), (5, k5'), (6, k6'), (39, nI (no + 1))]) [(55, nI (200 + nd))], us Y1 [(13, upd (Y1 13) (200 + no) (nI (200 + nd)))], us X1 [(2, nI nx'), (3, k3'), (4, nI fr'), (5, k5'), (6, k6'), (39, nI (no + 1))], us Y1 [(13, upd (Y1 13) (200 + no) (nI (200 + nd)))], by rw [t1, t3, t5]; exact s1, ⟨⟨k46, ⟨t1, k1a, rfl, rfl, rfl, rfl, by show RTape n tx (Y1 0); rw [k1c]; exact tR, k1d, s3⟩, hNm, hND⟩, ⟨by omega, by omega, hs1, fun j hj => ⟨if_neg (by omega), if_neg (by have := hoo j hj; omega)⟩, fun a ha => hcc a ha, fun j q1 q2 => ?_, krow⟩, (hF.trans (fri_us rfl)).trans (fri_us rfl), hFA.trans (fra_us rfl (low_cons (fun i hi => up_n ?_) low_nil)), hiB, k54, k49, rfl, ⟨no, by omega, if_pos rfl⟩, if_pos rfl, fun j _ => ⟨congrFun k5.1 j, congrFun k5.2 j⟩, by omega, by omega, by omega, by omega, ⟨nx, 0, by omega, s4, fun z => by have := word_gap s3 s4 ha z; omega, ?_⟩, hnn, hnr, hrl⟩, by omega, ?_⟩
  · have : oAd o no nd j = nd := if_pos (by omega)
    omega
  · have : lowB 13 = 200 := rfl
    omega
  · rw [hp1, hw1, if_neg hw40]; omega
  · unfold f_M_readOne_182 f_M_stand f_M_ended
    rw [k46, M_fine0, Option.bind_some, if_neg i1z, k1e, show (200 : Int32) = nI 200 from rfl, nI_add, if_neg (nI_g (show 200 + no < 400 by omega) (by decide)), nI_cl (by omega), nI_m, Option.bind_some, k1a, k1b, k1c, s2, Option.bind_some]
