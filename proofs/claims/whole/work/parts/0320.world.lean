/-! the edges of a thing, of both -/
theorem no_iff_s {N n T R F W : Nat} {ax g row : Nat → Int32} (hN : 100000 ≤ N) (hn : n ≤ 9) (hR : R < 3) (hg : g R = nI F) (hF : F < 512) (hT : T < 512) (hW : W < 512) (hA : ∀ u, u < 2 ^ n → ∃ A : Nat, A < 512 ∧ ax u = nI A) : f_M_leastTo_stands N (nI T) (nI R) (nI W) (nI n) ax g row = some (-1) ↔ ∀ s, s < 2 ^ n → ¬ (¬ row s = 0 ∧ ∃ A : Nat, A < 512 ∧ ax s = nI A ∧ (A &&& F) &&& (511 ^^^ T) = 0 ∧ A &&& W = W) := by
  have h9 := pw9_le n (by omega)
  unfold f_M_leastTo_stands
  obtain ⟨r, e1, e2⟩ := lt_loop_stands (N := N) (n := n) (T := T) (R := R) (F := F) (W := W) (ax := ax) (g := g) (row := row) hn hR hg hF hT hW hA (2 ^ n) N 0 (by omega) (by omega) (fun s h => absurd h (by omega))
  rw [show (0 : Int32) = nI 0 from rfl, e1]
  have ng := e2.neg (by omega)
  exact ⟨fun h => ng.1.mp (Option.some.inj h), fun h => by rw [ng.1.mpr h]⟩
/-- all that stand are met, of the model -/
def Mst (N n nr S : Nat) (c5 m59 ax sd : Nat → Int32) (own : Nat → Nat) : Prop := ∀ s, s < 2 ^ n → sd s = 1 → MetX N n nr S c5 m59 ax sd own s 0
theorem served_eq {n nr S k R T : Nat} {c5 k5 k6 m60 m59 m29 ax : Nat → Int32} {pt : Nat → Int64} (H : RKd n nr S c5 k5 k6 m60 m59 m29 pt ax) (hk : k < n) (hT : T < 2 ^ n) (hR : R < nr) (hc : c5 k = nI R) : ∃ b : Bool, f_K_isServed (nI T) (nI k) (nI S) (nI n) c5 k5 = some (if b = true then 1 else 0) ∧ (b = true ↔ S.testBit R = true ∧ ∃ j, j < k ∧ T.testBit j = true ∧ c5 j = nI R) := by
  obtain ⟨hn, hnr, hS, hp, hf, ho, hcs, h29⟩ := id H
  have h9 := pw9_le n (by omega)
  obtain ⟨O, o1, o2, o3, o4⟩ := ho R (by omega)
  unfold f_K_isServed
  rw [C_roleOfAtom_eq hn hk, Option.bind_some, hc, if_neg (nI_pos (by omega)), if_neg (show ¬ (3 : Int32) ≤ nI R from nI_ge (show R < 3 by omega) (by decide)), B_single_eq hS (by omega), Option.bind_some]
  by_cases h : S.testBit R = true
  · rw [if_pos h, if_neg i1z, if_neg (nI_g (show R < 3 by omega) (by decide)), nI_cl (by omega), o2, nI_and, pw12_1 k (by omega), nI_and]
    have hlt : (O &&& T) &&& (2 ^ k - 1) < 512 := Nat.lt_of_le_of_lt Nat.and_le_left (Nat.lt_of_le_of_lt Nat.and_le_left (by omega))
    have hz := zero_iff hlt
    by_cases hj : ∃ j, j < k ∧ T.testBit j = true ∧ c5 j = nI R
    · obtain ⟨j, j1, j2, j3⟩ := hj
      rw [if_neg (fun z => by
        have := hz.mp z j (by omega)
        rw [Nat.testBit_and, Nat.testBit_and, Nat.testBit_two_pow_sub_one, (o4 j (by omega)).mpr j3, j2] at this
        simp at this
        omega)]
      exact ⟨true, rfl, fun _ => ⟨h, j, j1, j2, j3⟩, fun _ => rfl⟩
    · rw [if_pos (hz.mpr (fun j j9 => by
        rw [Nat.testBit_and, Nat.testBit_and, Nat.testBit_two_pow_sub_one]
        cases h1 : O.testBit j
        · rfl
        · cases h2 : T.testBit j
          · rfl
          · by_cases h3 : j < k
            · exact absurd ⟨j, h3, h2, (o4 j (by omega)).mp h1⟩ hj
            · simp [h3]))]
      exact ⟨false, rfl, fun q => absurd q (by decide), fun q => absurd q.2 hj⟩
  · rw [if_neg h, if_pos rfl]
    exact ⟨false, rfl, fun q => absurd q (by decide), fun q => absurd q.1 h⟩
theorem ed_pack {a b r : Nat} (ha : a < 1024) (hb : b < 1024) (hr : r < 3) : (nI a ||| (nI b <<< ((10 : Int32) &&& 31))) ||| (nI r <<< ((20 : Int32) &&& 31)) = nI (a + 1024 * b + 1048576 * r) := by
  rw [pk_shlN (n := b) _ 10 (by decide) (by omega), pk_shlN (n := r) _ 20 (by decide) (by omega), nI_or, nI_or]
  have e1 : a ||| b * 2 ^ 10 = a + 1024 * b := by
    have := Nat.two_pow_add_eq_or_of_lt (i := 10) (b := a) (by omega) b
    rw [Nat.or_comm, Nat.mul_comm b, ← this]; omega
  have e2 : (a + 1024 * b) ||| r * 2 ^ 20 = a + 1024 * b + 1048576 * r := by
    have := Nat.two_pow_add_eq_or_of_lt (i := 20) (b := a + 1024 * b) (by omega) r
    rw [Nat.or_comm, Nat.mul_comm r, ← this]; omega
  rw [e1, e2]
theorem ae_tail {N n k T : Nat} {iB iC o1 o4 v2 x1 x4 : Int32} {c5 k5 k6 p0 p2 p3 w0 w2 w3 : Nat → Int32} {pt st : Nat → Int64} (hn : n ≤ 9) (hT : T < 2 ^ n) : ∀ (d i k : Nat), k + d = 9 → d < i → n ≤ k → f_W_addEdges_10 N iB iC c5 pt st k5 k6 o1 o4 p0 p2 p3 v2 (nI T) i (nI k) x1 x4 w0 w2 w3 = some (x1, x4, w0, w2, w3) := by
  have h9 := pw9_le n (by omega)
  intro d
  induction d with
  | zero =>
    intro i k hk hi hnk
    obtain ⟨i, rfl⟩ : ∃ k, i = k + 1 := ⟨i - 1, by omega⟩
    rw [f_W_addEdges_10, if_pos (show (9 : Int32) ≤ nI k from nI_le (show 9 ≤ k by omega) (by omega))]
  | succ d ih =>
    intro i k hk hi hnk
    obtain ⟨i, rfl⟩ : ∃ k, i = k + 1 := ⟨i - 1, by omega⟩
    have hb : T.testBit k = false := bit_big hT hnk
    rw [f_W_addEdges_10, if_neg (show ¬ (9 : Int32) ≤ nI k from nI_ge (show k < 9 by omega) (by decide)), if_neg (fun z => by rw [(mbit1 (by omega) (by omega)).1.mp z] at hb; cases hb), nI_m]
    exact ih i (k + 1) (by omega) (by omega) (by omega)
theorem REd.add {E a b r : Nat} {e m1 m2 m3 : Nat → Int32} (h : REd E e m1 m2 m3) (ha : a < 1024) (hb : b < 1024) (hr : r < 3) : REd (E + 1) (upd e E (nI (a + 1024 * b + 1048576 * r))) (upd m1 E (nI a)) (upd m2 E (nI b)) (upd m3 E (nI r)) := by
  intro j hj
  unfold upd
  by_cases q : j = E
  · rw [if_pos q, if_pos q, if_pos q, if_pos q]
    exact ⟨a, b, r, ha, hb, hr, rfl, rfl, rfl, rfl⟩
  · rw [if_neg q, if_neg q, if_neg q, if_neg q]
    exact h j (by omega)
theorem ae_loop {N n nr S t Ty : Nat} {c5 k5 k6 m60 m59 m29 ax sd m21 m57 : Nat → Int32} {pt st : Nat → Int64} {own : Nat → Nat} {i22 i37 o66 o68 o1 o4 : Int32} {o67 o69 o70 o71 p0 p2 p3 m32 : Nat → Int32} {kk : Int32 → Int32 → Int32 → (Nat → Int32) → (Nat → Int32) → (Nat → Int32) → (Nat → Int32) → Option (Int32 × Int32 × Int32 × (Nat → Int32) × (Nat → Int32) × (Nat → Int32) × (Nat → Int32))} (hN : 100000 ≤ N) (H : RKd n nr S c5 k5 k6 m60 m59 m29 pt ax) (hw : Ow n c5 k5 m60 own) (hs : RSt n st sd) (hM : Mst N n nr S c5 m59 ax sd own) (h32 : ∀ k, k < n → m32 k = c5 k) (hTy : Ty < 2 ^ n) (hTs : sd Ty = 1) (ht : t < 512) : ∀ (d i i' k T E tld X : Nat) (ty : Nat → Nat) (w0 w2 w3 m67 m69 m70 m71 : Nat → Int32), k + d = n → 10 ≤ i + k → d < i' → t < T → ty t = Ty → WdT n T ty sd w0 w2 m67 → REd E w3 m69 m70 m71 → E ≤ X + cb (fun j => Ty.testBit j) k → X + pc9 Ty ≤ 2304 → tld < 8 → (∀ R, R < nr → S.testBit R = true → (tld.testBit R = true ↔ ∃ j, j < k ∧ Ty.testBit j = true ∧ c5 j = nI R)) → ∃ (T' E' : Nat) (ty' : Nat → Nat) (w0' w2' w3' m67' m69' m70' m71' : Nat → Int32), f_W_addEdges_10 N (nI S) (nI n) c5 pt st k5 k6 o1 o4 p0 p2 p3 (nI t) (nI Ty) i (nI k) (nI T) (nI E) w0 w2 w3 = some (nI T', nI E', w0', w2', w3') ∧ f_M_world_71 N i22 (nI n) i37 o66 o68 m21 m29 m32 m57 ax m59 m60 sd o67 o69 o70 o71 kk (nI t) i' (nI tld) (nI k) (nI T) (nI E) m67 m69 m70 m71 = kk (nI (t + 1)) (nI T') (nI E') m67' m69' m70' m71' ∧ T ≤ T' ∧ WdT n T' ty' sd w0' w2' m67' ∧ REd E' w3' m69' m70' m71' ∧ E' ≤ X + pc9 Ty ∧ ∀ j, j < T → ty' j = ty j := by
  obtain ⟨hn, hnr, hS, hp, hf, ho, hcs, h29⟩ := id H
  have h9 := pw9_le n (by omega)
  intro d
  induction d with
  | zero =>
    intro i i' k T E tld X ty w0 w2 w3 m67 m69 m70 m71 hk hi hi' htT hty hW hE hB hX ht8 htl
    obtain ⟨i', rfl⟩ : ∃ k, i' = k + 1 := ⟨i' - 1, by omega⟩
    have ek : k = n := by omega
    subst ek
    refine ⟨T, E, ty, w0, w2, w3, m67, m69, m70, m71, ae_tail (n := k) (k := k) hn hTy (9 - k) i k (by omega) (by omega) (Nat.le_refl _), ?_, Nat.le_refl _, hW, hE, Nat.le_trans hB (Nat.add_le_add_left (cb_mono hn) _), fun _ _ => rfl⟩
    rw [f_M_world_71, if_pos (nI_le (Nat.le_refl _) (by omega)), nI_m]
  | succ d ih =>
    intro i i' k T E tld X ty w0 w2 w3 m67 m69 m70 m71 hk hi hi' htT hty hW hE hB hX ht8 htl
    obtain ⟨i, rfl⟩ : ∃ k, i = k + 1 := ⟨i - 1, by omega⟩
    obtain ⟨i', rfl⟩ : ∃ k, i' = k + 1 := ⟨i' - 1, by omega⟩
    have hkn : k < n := by omega
    have hT5 := hW.1
    have hcb : cb (fun j => Ty.testBit j) (k + 1) = cb (fun j => Ty.testBit j) k + (if Ty.testBit k = true then 1 else 0) := rfl
    have e67 := (hW.2.1 t htT).2.2.2.1
    rw [hty] at e67
    rw [f_W_addEdges_10, if_neg (show ¬ (9 : Int32) ≤ nI k from nI_ge (show k < 9 by omega) (by decide)), f_M_world_71, if_neg (nI_ge hkn (by omega)), if_neg (nI_g (show k < 18 by omega) (by decide)), nI_cl (show k < 2147483648 by omega), h32 k hkn, nI_m]
    have hbit := mbit1 (t := Ty) (x := k) (by omega) (by omega)
    -- what goes on where no edge is made
    have skip : ∀ tl2 : Nat, tl2 < 8 → (∀ R, R < nr → S.testBit R = true → (tl2.testBit R = true ↔ ∃ j, j < k + 1 ∧ Ty.testBit j = true ∧ c5 j = nI R)) → _ := fun tl2 q1 q2 => ih i i' (k + 1) T E tl2 X ty w0 w2 w3 m67 m69 m70 m71 (by omega) (by omega) (by omega) htT hty hW hE (by omega) hX q1 q2
    rcases hcs k hkn with hc | ⟨R, hR, hc⟩
    · -- a name's atom
      have hsk := skip tld ht8 (fun R hR hSR => by
        rw [htl R hR hSR]
        constructor
        · rintro ⟨j, j1, j2, j3⟩; exact ⟨j, by omega, j2, j3⟩
        · rintro ⟨j, j1, j2, j3⟩
          by_cases q : j = k
          · rw [q, hc] at j3; exact absurd j3.symm (nI_neg1 (by omega))
          · exact ⟨j, by omega, j2, j3⟩)
      rw [hc, if_pos (show (-1 : Int32) < 0 by decide)]
      by_cases hb : Ty.testBit k = true
      · rw [if_pos (hbit.1.mpr hb)]
        have e1 : f_K_isServed (nI Ty) (nI k) (nI S) (nI n) c5 k5 = some 0 := by
          unfold f_K_isServed
          rw [C_roleOfAtom_eq hn hkn, Option.bind_some, hc, if_pos (show (-1 : Int32) < 0 by decide)]
        have e2 : f_K_leastMeeting_standing N (nI Ty) (nI k) (nI S) (nI n) c5 pt st k5 k6 = some (-1) := by
          unfold f_K_leastMeeting_standing
          rw [C_roleOfAtom_eq hn hkn, Option.bind_some, hc, if_pos (show (-1 : Int32) < 0 by decide)]
        rw [e1, Option.bind_some, if_pos rfl, e2, Option.bind_some, if_pos rfl]
        exact hsk
      · rw [if_neg (fun z => hb (hbit.1.mp z))]
        exact hsk
    · rw [hc, if_neg (nI_pos (show R < 2147483648 by omega)), if_neg (nI_g (show t < 512 by omega) (by decide)), nI_cl (show t < 2147483648 by omega), e67]
      by_cases hb : Ty.testBit k = true
      · rw [if_pos (hbit.1.mpr hb), if_neg (show ¬ ((nI Ty >>> (nI k &&& 31)) &&& (1 : Int32)) = 0 from fun z => by rw [hbit.2.mp z] at hb; cases hb), if_neg (nI_g (show R < 6 by omega) (by decide)), nI_cl (show R < 2147483648 by omega), h29 R hR]
        obtain ⟨b, s1, s2⟩ := served_eq H hkn hTy hR hc
        rw [s1, Option.bind_some]
        have hO := hw R (by omega)
        -- the edge that both add
        have edge : ¬ (S.testBit R = true ∧ ∃ j, j < k ∧ Ty.testBit j = true ∧ c5 j = nI R) → ∃ (u j T' : Nat) (ty' : Nat → Nat) (w0' w2' m67' : Nat → Int32), u < 2 ^ n ∧ f_K_leastMeeting_standing N (nI Ty) (nI k) (nI S) (nI n) c5 pt st k5 k6 = some (nI u) ∧ f_W_thingFor (nI u) (nI T) w0 w2 = some (nI j, nI T', w0', w2') ∧ f_M_addEdge N (nI t) (nI R) (nI (if S.testBit R = true then own R &&& Ty else 2 ^ k)) (nI n) (nI T) (nI E) ax m59 sd m67 m69 m70 m71 = some (nI T', nI (E + 1), m67', upd m69 E (nI t), upd m70 E (nI j), upd m71 E (nI R)) ∧ j < T' ∧ T ≤ T' ∧ WdT n T' ty' sd w0' w2' m67' ∧ ∀ i, i < T → ty' i = ty i := by
          intro _
          obtain ⟨r, r1, r2, r3⟩ := meet_standing hN H hs hTy hkn hb hR hc hO.2.1 hO.1
          obtain ⟨F, f1, f2, f3⟩ := hf R (by omega)
          have hWl : (if S.testBit R = true then own R &&& Ty else 2 ^ k) < 512 := by
            by_cases h : S.testBit R = true
            · rw [if_pos h]; exact Nat.lt_of_le_of_lt Nat.and_le_left (by have := hO.1; omega)
            · rw [if_neg h]; have : 2 ^ k < 2 ^ n := Nat.pow_lt_pow_right (by decide) hkn; omega
          have hA : ∀ u, u < 2 ^ n → ∃ A : Nat, A < 512 ∧ ax u = nI A := fun u hu => by obtain ⟨A, a1, a2, -⟩ := hp u hu; exact ⟨A, by omega, a2⟩
          have hno := hM Ty hTy hTs k (Nat.zero_le _) hkn hb R hR hc
          rw [no_iff hN hn (by omega) f3 (by omega) (by omega) hWl hA, ← no_iff_s (N := N) hN hn (by omega) f3 (by omega) (by omega) hWl hA] at hno
          rcases r3 with r3 | ⟨u, u1, u2, u3⟩
          · rw [r3] at r2; exact absurd r2 hno
          · obtain ⟨j, T', ty', w0', w2', m67', g1, g2, g3, g4, g5, g6⟩ := th_eq hN hn hW u1 u3
            refine ⟨u, j, T', ty', w0', w2', m67', u1, by rw [r1, u2], g3, ?_, g1, g2, g5, g6⟩
            have hEl : E < 4700 := by have : cb (fun j => Ty.testBit j) k ≤ k := cb_le _ _; have : pc9 Ty ≤ 9 := cb_le _ _; omega
            unfold f_M_addEdge
            rw [if_neg (nI_g (show t < 512 by omega) (by decide)), nI_cl (show t < 2147483648 by omega), e67, r2, Option.bind_some, u2, g4, Option.bind_some, if_neg (nI_g hEl (by decide)), nI_cl (by omega), nI_m]
        have room : E < 2304 := by
          have h1 : cb (fun j => Ty.testBit j) (k + 1) ≤ pc9 Ty := cb_mono (show k + 1 ≤ 9 by omega)
          rw [hcb, if_pos hb] at h1
          omega
        have roleq : f_C_roleOfAtom (nI k) (nI n) c5 = some (nI R) := by rw [C_roleOfAtom_eq hn hkn, hc]
        by_cases hSR : S.testBit R = true
        · rw [if_pos hSR, if_neg i1z]
          have tb3 := mbit1 (t := tld) (x := R) (by omega) (by omega)
          by_cases hsv : ∃ j, j < k ∧ Ty.testBit j = true ∧ c5 j = nI R
          · -- served
            rw [if_neg (show ¬ (if b = true then (1 : Int32) else 0) = 0 by rw [if_pos (s2.mpr ⟨hSR, hsv⟩)]; decide), if_neg (show ¬ ((nI tld >>> (nI R &&& 31)) &&& (1 : Int32)) = 0 from fun z => by
              have := tb3.2.mp z
              rw [(htl R hR hSR).mpr hsv] at this
              cases this)]
            exact skip tld ht8 (fun R' hR' hSR' => by
              rw [htl R' hR' hSR']
              constructor
              · rintro ⟨j, j1, j2, j3⟩; exact ⟨j, by omega, j2, j3⟩
              · rintro ⟨j, j1, j2, j3⟩
                by_cases q : j = k
                · rw [q, hc] at j3
                  have : R = R' := (nI_eq (by omega) (by omega)).mp j3
                  subst this
                  exact hsv
                · exact ⟨j, by omega, j2, j3⟩)
          · have hnb : ¬ b = true := fun q => hsv (s2.mp q).2
            obtain ⟨u, j, T', ty', w0', w2', m67', u1, u2, u3, u4, u5, u6, u7, u8⟩ := edge (fun q => hsv q.2)
            rw [if_pos (show (if b = true then (1 : Int32) else 0) = 0 by rw [if_neg hnb]), u2, Option.bind_some, if_neg (nI_neg1 (by omega)), if_neg (show ¬ (2304 : Int32) ≤ nI E from nI_ge room (by decide)), roleq, Option.bind_some, u3, Option.bind_some, if_neg (nI_g room (by decide)), nI_cl (show E < 2147483648 by omega)]
            rw [if_pos (show ((nI tld >>> (nI R &&& 31)) &&& (1 : Int32)) = 0 from tb3.2.mpr (by
              cases q : tld.testBit R
              · rfl
              · exact absurd ((htl R hR hSR).mp q) hsv)), if_neg (nI_gc (show R < 3 by omega) (by decide)), hO.2.2.1, nI_and]
            rw [if_pos hSR] at u4
            rw [u4, Option.bind_some, pw9 R (by omega), nI_or, nI_m]
            have hT'5 := u7.1
            show ∃ (T'' E' : Nat) (ty'' : Nat → Nat) (w0'' w2'' w3'' m67'' m69'' m70'' m71'' : Nat → Int32), f_W_addEdges_10 N (nI S) (nI n) c5 pt st k5 k6 o1 o4 p0 p2 p3 (nI t) (nI Ty) i (nI (k + 1)) (nI T') (nI (E + 1)) w0' w2' (upd w3 E ((nI t ||| (nI j <<< ((10 : Int32) &&& 31))) ||| (nI R <<< ((20 : Int32) &&& 31)))) = some (nI T'', nI E', w0'', w2'', w3'') ∧ _
            rw [ed_pack (show t < 1024 by omega) (show j < 1024 by omega) (show R < 3 by omega)]
            obtain ⟨T2, E2, ty2, w02, w22, w32, m672, m692, m702, m712, b1, b2, b3, b4, b5, b6, b7⟩ := ih i i' (k + 1) T' (E + 1) (tld ||| 2 ^ R) X ty' w0' w2' _ m67' _ _ _ (by omega) (by omega) (by omega) (by omega) ((u8 t htT).trans hty) u7 (hE.add (show t < 1024 by omega) (show j < 1024 by omega) (show R < 3 by omega)) (by rw [hcb, if_pos hb]; omega) hX (Nat.or_lt_two_pow (n := 3) ht8 (by have : 2 ^ R < 2 ^ 3 := Nat.pow_lt_pow_right (by decide) (by omega); exact this)) (fun R' hR' hSR' => by
              rw [Nat.testBit_or, pw_bit, Bool.or_eq_true, htl R' hR' hSR', decide_eq_true_eq]
              constructor
              · rintro (⟨j, j1, j2, j3⟩ | q)
                · exact ⟨j, by omega, j2, j3⟩
                · subst q; exact ⟨k, by omega, hb, hc⟩
              · rintro ⟨j, j1, j2, j3⟩
                by_cases q : j = k
                · rw [q, hc] at j3
                  exact Or.inr ((nI_eq (by omega) (by omega)).mp j3)
                · exact Or.inl ⟨j, by omega, j2, j3⟩)
            exact ⟨T2, E2, ty2, w02, w22, w32, m672, m692, m702, m712, b1, b2, by omega, b4, b5, b6, fun j hj => (b7 j (by omega)).trans (u8 j hj)⟩
        · have hnb : ¬ b = true := fun q => hSR (s2.mp q).1
          obtain ⟨u, j, T', ty', w0', w2', m67', u1, u2, u3, u4, u5, u6, u7, u8⟩ := edge (fun q => hSR q.1)
          rw [if_neg hSR, if_pos rfl, if_pos (show (if b = true then (1 : Int32) else 0) = 0 by rw [if_neg hnb]), u2, Option.bind_some, if_neg (nI_neg1 (by omega)), if_neg (show ¬ (2304 : Int32) ≤ nI E from nI_ge room (by decide)), roleq, Option.bind_some, u3, Option.bind_some, if_neg (nI_g room (by decide)), nI_cl (show E < 2147483648 by omega), pw9 k (by omega)]
          rw [if_neg hSR] at u4
          rw [u4, Option.bind_some, nI_m]
          have hT'5 := u7.1
          show ∃ (T'' E' : Nat) (ty'' : Nat → Nat) (w0'' w2'' w3'' m67'' m69'' m70'' m71'' : Nat → Int32), f_W_addEdges_10 N (nI S) (nI n) c5 pt st k5 k6 o1 o4 p0 p2 p3 (nI t) (nI Ty) i (nI (k + 1)) (nI T') (nI (E + 1)) w0' w2' (upd w3 E ((nI t ||| (nI j <<< ((10 : Int32) &&& 31))) ||| (nI R <<< ((20 : Int32) &&& 31)))) = some (nI T'', nI E', w0'', w2'', w3'') ∧ _
          rw [ed_pack (show t < 1024 by omega) (show j < 1024 by omega) (show R < 3 by omega)]
          obtain ⟨T2, E2, ty2, w02, w22, w32, m672, m692, m702, m712, b1, b2, b3, b4, b5, b6, b7⟩ := ih i i' (k + 1) T' (E + 1) tld X ty' w0' w2' _ m67' _ _ _ (by omega) (by omega) (by omega) (by omega) ((u8 t htT).trans hty) u7 (hE.add (show t < 1024 by omega) (show j < 1024 by omega) (show R < 3 by omega)) (by rw [hcb, if_pos hb]; omega) hX ht8 (fun R' hR' hSR' => by
            rw [htl R' hR' hSR']
            constructor
            · rintro ⟨j, j1, j2, j3⟩; exact ⟨j, by omega, j2, j3⟩
            · rintro ⟨j, j1, j2, j3⟩
              by_cases q : j = k
              · rw [q, hc] at j3
                have : R = R' := (nI_eq (by omega) (by omega)).mp j3
                subst this
                exact absurd hSR' hSR
              · exact ⟨j, by omega, j2, j3⟩)
          exact ⟨T2, E2, ty2, w02, w22, w32, m672, m692, m702, m712, b1, b2, by omega, b4, b5, b6, fun j hj => (b7 j (by omega)).trans (u8 j hj)⟩
      · have hbf : Ty.testBit k = false := by cases q : Ty.testBit k; rfl; exact absurd q hb
        rw [if_neg (fun z => hb (hbit.1.mp z)), if_pos (hbit.2.mpr hbf)]
        exact skip tld ht8 (fun R' hR' hSR' => by
          rw [htl R' hR' hSR']
          constructor
          · rintro ⟨j, j1, j2, j3⟩; exact ⟨j, by omega, j2, j3⟩
          · rintro ⟨j, j1, j2, j3⟩
            by_cases q : j = k
            · rw [q] at j2; exact absurd j2 hb
            · exact ⟨j, by omega, j2, j3⟩)
