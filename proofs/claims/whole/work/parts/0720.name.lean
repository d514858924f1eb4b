/-! a NAME read, of both -/
theorem one_name {N n : Nat} {tx : Nat → Int32} {S Od d W nx fr nd no sz na nn nr : Nat} {o φ wt pl : Nat → Nat} {iR iT : Nat → Int32} {wT : Int64} {iB : Nat → Int32} {lB : Nat → Nat → Int64} {aB : Nat → Nat → Int32} {iC : Nat → Int32} {aC : Nat → Nat → Int32} {iM : Nat → Int32} {aM : Nat → Nat → Int32} {jI : Nat → Int32} {jA : Nat → Nat → Int32} (hN : 100000 ≤ N) (hd : d ≤ 12) (P : PS n tx S Od nx fr nd no sz na nn nr o φ wt pl iT wT iB lB iC aC iM aM) (hnd : nd < 200) (h56 : iM 56 = nI 1) (h54 : iM 54 = nI W) (h49 : iM 49 = nI d) (hw : ¬ wT = lN 40) (h4 : iT 4 = 4) (hq : f_M_kept N (iM 3) (nI fr) (iM 5) (aM 0) wordsM = some (-1)) (hs : f_M_isSignHere 40 (iM 3) (iM 6) = some 0) (hb : f_T_beginsConcept (iT 4) wT = some 1) (hh : f_T_holdsConcept wT = some 0) : OneO N n tx S Od d W fr nd no sz nn nr o φ wt pl wT iR iB aC iM aM jI jA (f_R_takeOne N (14 - d) (nI d) iR iT wT tx iB lB aB iC aC) := by
  have P' := P
  obtain ⟨p46, hTk, PM, PD⟩ := P'
  obtain ⟨t1, t2, t3, t4, t5, t6, tR, tW, tT⟩ := hTk
  obtain ⟨n1, n2, n3, n4, n5, n6, n7, n8, n9, n10, n11, n12, n13, n14, n15, n16⟩ := PD
  obtain ⟨hnn, hnr, b3, b5, m43, m44, W1, W2, W3, W4⟩ := PM
  have hn := tR.1
  have hfr : fr ≤ n := Nat.le_trans tT.1 tT.2.1
  have hnx := tT.2.1
  obtain ⟨len, a1, a2, a3, a4, a5, a6, a7, a8, a9, a10, a11⟩ := tT.free.1 h4
  obtain ⟨K, K1, K2, K3⟩ := ro_54 t6 tW a4 hq hs (Or.inl rfl)
  have K0 := K1 rfl
  rw [K0] at K3
  -- the class up to the name
  have CL : f_R_takeOne N (14 - d) (nI d) iR iT wT tx iB lB aB iC aC = f_R_takeName N iR iT wT tx (us iB [(1, nI (nd + 1))]) lB aB iC aC := by
    rw [to_37 hd hb hh (Or.inr rfl), (to_60 hw n5).1 hnd]
    unfold f_R_takeOneB_60
    rw [if_pos h4, bind_eta8]
  -- the model up to the name
  have MD : f_M_readOne N iM aM = (f_M_readName N (nI (200 + nd)) (nI fr) (nI len) (nI nn) (nI nr) (nI na) 0 (iM 47) (aM 0) (upd (aM 9) (200 + nd) (-1)) (upd (aM 11) (200 + nd) (-1)) (upd (aM 12) (200 + nd) (nI fr)) (aM 23) (aM 24) (aM 26) (aM 27) (aM 32) (aM 33) (aM 34) (aM 35)).bind (fun q179 => f_M_readOne_182 N iM aM (nI (200 + nd)) (us (us iM [(38, nI (nd + 1)), (46, 0), (47, iM 47)]) [(43, q179.1), (45, q179.2.1), (46, q179.2.2.1), (47, q179.2.2.2.1)]) (us (us aM [(8, upd (aM 8) (200 + nd) (nI 0)), (9, upd (aM 9) (200 + nd) (-1)), (10, upd (aM 10) (200 + nd) (-1)), (11, upd (aM 11) (200 + nd) (-1)), (12, upd (aM 12) (200 + nd) (nI fr))]) [(9, q179.2.2.2.2.1), (11, q179.2.2.2.2.2.1), (23, q179.2.2.2.2.2.2.1), (24, q179.2.2.2.2.2.2.2.1), (32, q179.2.2.2.2.2.2.2.2.1), (33, q179.2.2.2.2.2.2.2.2.2.1), (34, q179.2.2.2.2.2.2.2.2.2.2.1), (35, q179.2.2.2.2.2.2.2.2.2.2.2)])) := by
    rw [K3]
    unfold f_M_readOne_105
    rw [t6, n6, p46, nn_new hnd, Option.bind_some, M_fine0, Option.bind_some, if_neg i1z, if_pos (show (-1 : Int32) < 5 by decide)]
    unfold f_M_readOne_173
    rw [if_neg (show ¬ (0 : Int32) ≤ -1 by decide), ← t6, ← a5, ← m43, ← m44, ← n10]
    rfl
  -- a fault of the name
  have BAD : ∀ F : Nat, 1 ≤ F → F ≤ 6 → (∃ z, f_R_takeName N iR iT wT tx (us iB [(1, nI (nd + 1))]) lB aB iC aC = some (-1, us iR [(3, nI F), (4, nI fr)], z)) → f_M_readName N (nI (200 + nd)) (nI fr) (nI len) (nI nn) (nI nr) (nI na) 0 (iM 47) (aM 0) (upd (aM 9) (200 + nd) (-1)) (upd (aM 11) (200 + nd) (-1)) (upd (aM 12) (200 + nd) (nI fr)) (aM 23) (aM 24) (aM 26) (aM 27) (aM 32) (aM 33) (aM 34) (aM 35) = some (nI nn, nI na, nI F, nI fr, upd (aM 9) (200 + nd) (-1), upd (aM 11) (200 + nd) (-1), aM 23, aM 24, aM 32, aM 33, aM 34, aM 35) → OneO N n tx S Od d W fr nd no sz nn nr o φ wt pl wT iR iB aC iM aM jI jA (f_R_takeOne N (14 - d) (nI d) iR iT wT tx iB lB aB iC aC) := by
    intro F F1 F6 hc hm
    refine Or.inr (flt_now (F := F) (p := fr) (X := us (us iM [(38, nI (nd + 1)), (46, 0), (47, iM 47)]) [(43, nI nn), (45, nI na), (46, nI F), (47, nI fr)]) (Y := us (us aM [(8, upd (aM 8) (200 + nd) (nI 0)), (9, upd (aM 9) (200 + nd) (-1)), (10, upd (aM 10) (200 + nd) (-1)), (11, upd (aM 11) (200 + nd) (-1)), (12, upd (aM 12) (200 + nd) (nI fr))]) [(9, upd (aM 9) (200 + nd) (-1)), (11, upd (aM 11) (200 + nd) (-1)), (23, aM 23), (24, aM 24), (32, aM 32), (33, aM 33), (34, aM 34), (35, aM 35)]) (iR' := us iR [(3, nI F), (4, nI fr)]) (by omega) p46 h56 (by rw [CL]; exact hc) F1 F6 (by omega) rfl rfl ?_ rfl rfl ((fri_us rfl).trans (fri_us rfl)) (FrA.trans (a' := us aM [(8, upd (aM 8) (200 + nd) (nI 0)), (9, upd (aM 9) (200 + nd) (-1)), (10, upd (aM 10) (200 + nd) (-1)), (11, upd (aM 11) (200 + nd) (-1)), (12, upd (aM 12) (200 + nd) (nI fr))]) (fra_us rfl (low_cons (fun i hi => up_n (by have : lowB 8 = 200 := rfl; omega)) (low_cons (fun i hi => up_n (by have : lowB 9 = 200 := rfl; omega)) (low_cons (fun i hi => up_n (by have : lowB 10 = 200 := rfl; omega)) (low_cons (fun i hi => up_n (by have : lowB 11 = 200 := rfl; omega)) (low_cons (fun i hi => absurd hi (by have : lowB 12 = 0 := rfl; omega)) (low_nil))))))) (fra_us rfl (low_cons (fun i hi => rfl) (low_cons (fun i hi => rfl) (low_cons (fun i hi => rfl) (low_cons (fun i hi => rfl) (low_cons (fun i hi => rfl) (low_cons (fun i hi => rfl) (low_cons (fun i hi => rfl) (low_cons (fun i hi => rfl) (low_nil))))))))))))
    rw [MD, hm, Option.bind_some]
    unfold f_M_readOne_182
    show (f_M_fine (nI F)).bind _ = _
    rw [fine_bad F1 F6, Option.bind_some, if_pos rfl]
  obtain ⟨v, v1, v2, v3⟩ := hn_all (z := aM 24) (m := aM 23) (lw := lB 2) hN hnn tR a2 (show fr + len ≤ n by omega) a7 W1
  have CN : f_R_takeName N iR iT wT tx (us iB [(1, nI (nd + 1))]) lB aB iC aC = (if v = -1 then ((f_B_findRole N wT (nI nr) (lB 4)).bind fun q31 => (if q31 = (-1) then (f_R_takeName_44 N iR iT wT tx (us iB [(1, nI (nd + 1))]) lB aB iC aC v) else (some ((-1), (us iR [(3, nI 4), (4, nI fr)]), iT, wT, (us iB [(1, nI (nd + 1))]), lB, iC, aC)))) else f_R_takeName_44 N iR iT wT tx (us iB [(1, nI (nd + 1))]) lB aB iC aC v) := by
    unfold f_R_takeName
    show (f_B_findName N wT (iB 3) (lB 2)).bind _ = _
    rw [b3, a9, v1, Option.bind_some, ← a9]
    show (if v = -1 then ((f_B_findRole N wT (iB 5) (lB 4)).bind _) else _) = _
    rw [b5, t5]
    rfl
  rcases v3 with ⟨u1, u2⟩ | ⟨j, j1, j2, j3, j4⟩
  · obtain ⟨r, r1, r2, r3⟩ := hr_all (z := aM 27) (m := aM 26) (lw := lB 4) hN hnr tR a2 (show fr + len ≤ n by omega) a7 W2
    rw [if_pos u1, a9, r1, Option.bind_some, ← a9] at CN
    rcases r3 with ⟨s1, s2⟩ | ⟨j, j1, j2, j3, j4⟩
    · -- a name not told of
      rw [if_pos s1] at CN
      have RN : ∀ o9 o11 : Nat → Int32, f_M_readName N (nI (200 + nd)) (nI fr) (nI len) (nI nn) (nI nr) (nI na) 0 (iM 47) (aM 0) o9 o11 (upd (aM 12) (200 + nd) (nI fr)) (aM 23) (aM 24) (aM 26) (aM 27) (aM 32) (aM 33) (aM 34) (aM 35) = f_M_readName_26 N (nI fr) (nI len) (nI nn) (nI nr) (nI na) 0 (iM 47) (aM 0) o9 o11 (upd (aM 12) (200 + nd) (nI fr)) (aM 23) (aM 24) (aM 26) (aM 27) (aM 32) (aM 33) (aM 34) (aM 35) (nI (200 + nd)) v := by
        intro o9 o11
        unfold f_M_readName
        rw [v2, Option.bind_some, u1, if_neg (show ¬ (0 : Int32) ≤ -1 by decide), r2, Option.bind_some, s1, if_pos (show (-1 : Int32) < 0 by decide)]
      rw [u1] at CN RN
      unfold f_R_takeName_44 f_B_addName at CN
      rw [if_pos rfl] at CN
      unfold f_M_readName_26 at RN
      by_cases h5 : nn = 5
      · refine BAD 3 (by decide) (by decide) ?_ ?_
        · rw [CN]
          show ∃ z, (if iB 3 < 5 then _ else _ : Option (Int32 × Int32 × (Nat → Int64))).bind _ = _
          rw [b3, h5, if_neg (show ¬ nI 5 < (5 : Int32) by decide), Option.bind_some]
          unfold f_R_takeName_64
          rw [if_pos rfl]
          show ∃ z, (f_R_failHere 3 (iR 3) (iR 4) (iT 3)).bind _ = _
          rw [R_failH, t5, Option.bind_some]
          exact ⟨_, rfl⟩
        · rw [RN, if_neg (show ¬ (0 : Int32) ≤ -1 by decide), h5, if_pos (show nI 5 = (5 : Int32) from rfl), M_wrong0, Option.bind_some]
          rfl
      · have hlt : nn < 5 := by omega
        obtain ⟨m', x1, x2, x3⟩ := nc_loop (N := N) (r := nn) (m9 := upd (aM 9) (200 + nd) (-1)) (m11 := upd (aM 11) (200 + nd) (-1)) (m12 := upd (aM 12) (200 + nd) (nI fr)) (m23o := aM 23) (m24 := aM 24) (m26 := aM 26) (m27 := aM 27) (m32 := aM 32) (m33 := aM 33) (m34 := aM 34) (m35 := aM 35) (o43 := nI nn) (o44 := nI nr) (o45 := nI na) (o46 := 0) (o47 := iM 47) (v1 := nI (200 + nd)) tR a2 (show fr + len ≤ n by omega) hlt len N 0 (aM 23) (by omega) (by omega) (fun k hk => absurd hk (by omega))
        have hok' : okR m' (40 + 8 * nn) len := fun i hi => by
          obtain ⟨b, b1, b2, b3⟩ := a7 i hi
          exact ⟨b, b1, b2, by rw [x2 i hi]; exact b3⟩
        have hlw : (vp_updL (lB 2) nn wT) nn = lN (pkb m' (40 + 8 * nn) len) := by
          rw [pk_uLs, a9, (pkb_inj a7 hok' a2 a2).mpr ⟨rfl, fun i hi => (x2 i hi).symm⟩]
        refine nm_fin (o5 := nI len) (o43 := nI nn) (o44 := nI nr) (o0 := aM 0) (o23 := aM 23) (o24 := aM 24) (o26 := aM 26) (o27 := aM 27) (nn' := nn + 1) (a := nn) (len := len) (iB' := us (us iB [(1, nI (nd + 1))]) [(3, nI (nn + 1))]) (lB' := us lB [(2, vp_updL (lB 2) nn wT)]) (iBx := us iB [(1, nI (nd + 1))]) (lBx := lB) (y23 := m') (y24 := upd (aM 24) (5 + nn) (nI len)) hN hd P hnd h56 h54 h49 hw a3 a1 a11 (by omega) (by omega) (by omega) (fun b hb => by omega) ⟨rfl, rfl, b5⟩ (fun j q1 q2 q3 => (us_ne1 q2).trans (us_ne1 q1)) rfl (NmW_add W1 (fun b hb => pk_uLn (by omega)) (fun i h1 h2 => x3 i (by omega)) (fun b hb => up_n (by omega)) a1 a2 up_s hok' hlw) (fun i hi => x3 i (by omega)) (fun i hi => up_n (by omega)) (fun b hb => up_n (by omega)) up_s ?_ ?_
        · rw [CL, CN]
          show (if iB 3 < 5 then _ else _ : Option (Int32 × Int32 × (Nat → Int64))).bind _ = _
          have ec : (if (us iB [(1, nI (nd + 1))] 3) < 0 ∨ 5 ≤ (us iB [(1, nI (nd + 1))] 3).toNatClampNeg then none else (some (((us iB [(1, nI (nd + 1))] 3 + 1) - 1), (us iB [(1, nI (nd + 1))] 3 + 1), (vp_updL (lB 2) (us iB [(1, nI (nd + 1))] 3).toNatClampNeg wT)))) = some (nI nn, nI (nn + 1), vp_updL (lB 2) nn wT) := by
            show (if (iB 3) < 0 ∨ 5 ≤ (iB 3).toNatClampNeg then none else (some (((iB 3 + 1) - 1), (iB 3 + 1), (vp_updL (lB 2) (iB 3).toNatClampNeg wT)))) = _
            rw [b3, if_neg (nI_g hlt (by decide)), nI_m, nI_pred, nI_cl (by omega)]
          rw [ec, b3, if_pos (show nI nn < (5 : Int32) from nI_lt hlt (by decide)), Option.bind_some]
        · rw [MD, RN, if_neg (show ¬ (0 : Int32) ≤ -1 by decide), if_neg (show ¬ nI nn = (5 : Int32) from fun z => h5 ((nI_eq (b := 5) (by omega) (by omega)).mp z))]
          unfold f_M_readName_48
          rw [if_neg (show ¬ (0 : Int32) ≤ -1 by decide), show (0 : Int32) = nI 0 from rfl]
          rw [show nI 0 = (0 : Int32) from rfl] at x1 ⊢
          rw [x1, nI_m]
    · -- a role's word
      rw [if_neg (show ¬ r = -1 by rw [j2]; exact nI_neg1 (by omega))] at CN
      refine BAD 4 (by decide) (by decide) ⟨_, CN⟩ ?_
      unfold f_M_readName
      rw [v2, Option.bind_some, u1, if_neg (show ¬ (0 : Int32) ≤ -1 by decide), r2, Option.bind_some, j2, if_neg (nI_pos (show j < 2147483648 by omega)), M_wrong0, Option.bind_some]
      rfl
  · -- a name told of
    have nv : ¬ v = -1 := by rw [j2]; exact nI_neg1 (by omega)
    rw [if_neg nv] at CN
    unfold f_R_takeName_44 at CN
    rw [if_neg nv] at CN
    refine nm_fin (o5 := nI len) (o43 := nI nn) (o44 := nI nr) (o0 := aM 0) (o23 := aM 23) (o24 := aM 24) (o26 := aM 26) (o27 := aM 27) (nn' := nn) (a := j) (len := len) (iB' := us iB [(1, nI (nd + 1))]) (lB' := lB) (iBx := us iB [(1, nI (nd + 1))]) (lBx := lB) (y23 := aM 23) (y24 := aM 24) hN hd P hnd h56 h54 h49 hw a3 a1 a11 hnn (Nat.le_refl _) j1 (fun b hb => Or.inl hb) ⟨rfl, b3, b5⟩ (fun j q1 q2 q3 => us_ne1 q1) rfl W1 (fun i hi => rfl) (fun i hi => rfl) (fun b hb => rfl) j4 ?_ ?_
    · rw [CL, CN, j2]
    · rw [MD]
      have ge : (0 : Int32) ≤ nI j := nI_pos' (show j < 2147483648 by omega)
      unfold f_M_readName
      rw [v2, Option.bind_some, j2, if_pos ge]
      unfold f_M_readName_26
      rw [if_pos ge]
      unfold f_M_readName_48
      rw [if_pos ge]
