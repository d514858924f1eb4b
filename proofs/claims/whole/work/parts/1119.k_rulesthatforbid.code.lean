def f_K_rulesThatForbid_29 (N : Nat) (iB9 : Int32) (iB13 : Int32) (aB8 : Nat → Int32) (iC9 : Int32) (aC5 : Nat → Int32) (iK2 : Int32) (iK7 : Int32) (lK3 : Nat → Int64) (lK4 : Nat → Int64) (lK9 : Nat → Int64) (lK10 : Nat → Int64) (lK11 : Nat → Int64) (lK12 : Nat → Int64) (aK5 : Nat → Int32) (aK6 : Nat → Int32) (aK13 : Nat → Int32) (v1 : Int32) : Nat → Int32 → Int32 → (Nat → Int64) → (Nat → Int64) → (Nat → Int64) → (Nat → Int32) → Option (Int32 × (Nat → Int64) × (Nat → Int64) × (Nat → Int64) × (Nat → Int32))
  | 0, _, _, _, _, _, _ => none
  | n + 1, v2, v3, x_lK10, x_lK11, x_lK12, x_aK13 => if iB9 ≤ v3 then (some (v2, x_lK10, x_lK11, x_lK12, x_aK13)) else ((f_K_takeFair_trial N ((v2 &&& (((1 : Int32) <<< (v3 &&& 31)) ^^^ (-1 : Int32)))) iB9 aB8 iK2 lK3 x_lK10).bind fun q56 => ((f_K_settle_trial N ((0 : Int32)) iB13 iC9 aC5 iK2 iK7 lK4 q56 x_lK11 x_lK12 aK5 aK6 x_aK13).bind fun q65 => ((f_K_leastWhere_trial N v1 lK3 q65.2.1).bind fun q75 => (if q75 = (-1 : Int32) then (f_K_rulesThatForbid_29 N iB9 iB13 aB8 iC9 aC5 iK2 iK7 lK3 lK4 lK9 lK10 lK11 lK12 aK5 aK6 aK13 v1 n ((v2 &&& (((1 : Int32) <<< (v3 &&& 31)) ^^^ (-1 : Int32)))) ((v3 + (1 : Int32))) q65.2.1 q65.2.2.1 q65.2.2.2.1 q65.2.2.2.2) else (f_K_rulesThatForbid_29 N iB9 iB13 aB8 iC9 aC5 iK2 iK7 lK3 lK4 lK9 lK10 lK11 lK12 aK5 aK6 aK13 v1 n v2 ((v3 + (1 : Int32))) q65.2.1 q65.2.2.1 q65.2.2.2.1 q65.2.2.2.2)))))
def f_K_rulesThatForbid (N : Nat) (a1 : Int32) (iB9 : Int32) (iB13 : Int32) (aB8 : Nat → Int32) (iC9 : Int32) (aC5 : Nat → Int32) (iK2 : Int32) (iK7 : Int32) (lK3 : Nat → Int64) (lK4 : Nat → Int64) (lK9 : Nat → Int64) (lK10 : Nat → Int64) (lK11 : Nat → Int64) (lK12 : Nat → Int64) (aK5 : Nat → Int32) (aK6 : Nat → Int32) (aK13 : Nat → Int32) : Option (Int32 × (Nat → Int64) × (Nat → Int64) × (Nat → Int64) × (Nat → Int32)) := (f_K_leastWhere_standing N a1 lK3 lK9).bind fun q6 => (if q6 = (-1 : Int32) then (f_K_rulesThatForbid_29 N iB9 iB13 aB8 iC9 aC5 iK2 iK7 lK3 lK4 lK9 lK10 lK11 lK12 aK5 aK6 aK13 a1 N ((((1 : Int32) <<< (iB9 &&& 31)) - (1 : Int32))) ((0 : Int32)) lK10 lK11 lK12 aK13) else (some ((-1 : Int32), lK10, lK11, lK12, aK13)))
set_option maxHeartbeats 8000000 in
set_option maxRecDepth 100000 in
theorem c_K_rulesThatForbid (l : Launch) (dC : Nat → ClassId) (dI : Nat → Nat → Nat) (cy : Nat → ClassId) (ad : Nat → Nat) (sz : Nat) (N : Nat) (a1 : Int32) (iK : Nat → Int32) (lK : Nat → Nat → Int64) (aK : Nat → Nat → Int32) (iB : Nat → Int32) (lB : Nat → Nat → Int64) (aB : Nat → Nat → Int32) (iC : Nat → Int32) (aC : Nat → Nat → Int32) (q : Int32 × (Nat → Int64) × (Nat → Int64) × (Nat → Int64) × (Nat → Int32)) (h : f_K_rulesThatForbid N a1 (iB 9) (iB 13) (aB 8) (iC 9) (aC 5) (iK 2) (iK 7) (lK 3) (lK 4) (lK 9) (lK 10) (lK 11) (lK 12) (aK 5) (aK 6) (aK 13) = some q) : Met l yX2_rulesThatForbid wsX2_rulesThatForbid ({ frames := 6, cells := 0, slots := 0, locals := 148 } : Room) (cP (dC, dI) cy [.ref (ad 0), .int a1] (zzK ad cy (ad 11) (ad 18) iK lK aK iB lB aB iC aC) sz) (cQi (dC, dI) cy q.1 (zzK ad cy (ad 11) (ad 18) iK (us lK [(10, q.2.1), (11, q.2.2.1), (12, q.2.2.2.1)]) (us aK [(13, q.2.2.2.2)]) iB lB aB iC aC) (va_A (zzK ad cy (ad 11) (ad 18) iK lK aK iB lB aB iC aC) sz)) 0 0 (va_A (zzK ad cy (ad 11) (ad 18) iK lK aK iB lB aB iC aC) sz) := by
  refine Met.ofW (cc := cX2_rulesThatForbid) (maxL := 5) (ret := (some .int)) (by decide) rfl ?_
  intro p e s m args below meth c s₁ B hml hv
  obtain ⟨hav, hsz, hP, hK, hD0, hN⟩ := hv
  have hx := B.exec
  have hb := B.bytes
  have hr := B.returns
  have hts := atoms_spec (ws := wsX2_rulesThatForbid) B.pre
  have hown : s.vm.findClass RX2 = some m.cls := findClass_of_methodNamed B.named
  have hlocks := B.notSynchronized
  subst hsz
  have hD := hD0.self (sz := s.heap.size)
  generalize hAe : va_A (zzK ad cy (ad 11) (ad 18) iK lK aK iB lB aB iC aC) s.heap.size = A at hD ⊢
  have hA : ∀ q : Nat, s.heap.size ≤ q → A q := fun q h => by rw [← hAe]; exact Or.inr h
  have hS : va_S A s.heap s.heap [] := va_S.rf
  generalize hWQ : (zzK ad cy (ad 11) (ad 18) iK (us lK [(10, q.2.1), (11, q.2.2.1), (12, q.2.2.2.1)]) (us aK [(13, q.2.2.2.2)]) iB lB aB iC aC) = WQ
  generalize hQQ : MQ below (cQi (dC, dI) cy q.1 WQ A) args s 0 0 A = QQ
  have hl := lv_entry ([.ref (ad 0), .int a1] : List Value) (n := 5) (Nat.le_of_ble_eq_true rfl)
  have hfr := lg_entry_eq m ([.ref (ad 0), .int a1] : List Value) 5
  rw [← hav] at hfr
  rw [hfr]
  clear hfr hav
  generalize (lg_sl ([.ref (ad 0), .int a1] : List Value) ++ List.replicate (5 - (lg_sl ([.ref (ad 0), .int a1] : List Value)).length) Slot.unset).toArray = ls at hl ⊢
  have hl : lv_has ls 5 [(0, .ref (ad 0)), (1, .int a1)] := hl
  have kf44 := hts _ (List.mem_cons_of_mem _ m_fl_X2_44)
  have ki2 := (fun w h => List.mem_cons_of_mem _ (i_X2 w h) : ∀ w ∈ u_ws RX2 TX2 15, w ∈ wsX2_rulesThatForbid)
  have kf93 := hts _ (List.mem_cons_of_mem _ m_fl_X2_93)
  have ki0 := (fun w h => List.mem_cons_of_mem _ (i_X0 w h) : ∀ w ∈ u_ws RX0 TX0 15, w ∈ wsX2_rulesThatForbid)
  have kf31 := hts _ (List.mem_cons_of_mem _ m_fl_X2_31)
  have kf28 := hts _ (List.mem_cons_of_mem _ m_fl_X2_28)
  refine (?_ : ∀ (H : Heap) (locs : List Loc), va_P (dC, dI) vwCl (zzK ad cy (ad 11) (ad 18) iK lK aK iB lB aB iC aC) H → va_D A (zzK ad cy (ad 11) (ad 18) iK lK aK iB lB aB iC aC) → va_S A s.heap H locs → W p l e ({ frames := 6, cells := 0, slots := 0, locals := 148 } : Room) s m args below meth c H locs 0 0 QQ (F0 m 0 ls [])) s.heap [] hP hD hS
  clear hP hD hS
  have B29 : ∀ (n : Nat) (v1 : Int32) (v2 : Int32) (v3 : Int32) (x_lK10 : Nat → Int64) (x_lK11 : Nat → Int64) (x_lK12 : Nat → Int64) (x_aK13 : Nat → Int32) (H : Heap) (locs : List Loc) (ls : Array Slot), f_K_rulesThatForbid_29 N (iB 9) (iB 13) (aB 8) (iC 9) (aC 5) (iK 2) (iK 7) (lK 3) (lK 4) (lK 9) (lK 10) (lK 11) (lK 12) (aK 5) (aK 6) (aK 13) v1 n v2 v3 x_lK10 x_lK11 x_lK12 x_aK13 = some q → va_P (dC, dI) vwCl (zzK ad cy (ad 11) (ad 18) iK (us lK [(10, x_lK10), (11, x_lK11), (12, x_lK12)]) (us aK [(13, x_aK13)]) iB lB aB iC aC) H → va_D A (zzK ad cy (ad 11) (ad 18) iK (us lK [(10, x_lK10), (11, x_lK11), (12, x_lK12)]) (us aK [(13, x_aK13)]) iB lB aB iC aC) → va_S A s.heap H locs → lv_has ls 5 [(0, .ref (ad 0)), (1, .int v1), (2, .int v2), (3, .int v3)] → W p l e ({ frames := 6, cells := 0, slots := 0, locals := 148 } : Room) s m args below meth c H locs 0 0 QQ (F0 m 29 ls []) := by
    intro n
    induction n with
    | zero =>
      intro v1 v2 v3 x_lK10 x_lK11 x_lK12 x_aK13 H locs ls h hP hD hS hl
      rw [f_K_rulesThatForbid_29] at h
      cases h
    | succ n ih =>
      intro v1 v2 v3 x_lK10 x_lK11 x_lK12 x_aK13 H locs ls h hP hD hS hl
      rw [f_K_rulesThatForbid_29] at h
      refine lv_iload_n hx hb dX2_rulesThatForbid_29 rfl (lv_at hl 3 rfl) ?_
      refine lv_aload_n hx hb dX2_rulesThatForbid_30 rfl (lv_at hl 0 rfl) ?_
      refine va_get (D := (dC, dI)) (ci := 2) (v := .ref (ad 11)) (C := RX2) (T := TX2) (N := 15) hx hb hts ki2 hown hK hP 0 rfl rfl 0 (by decide) kf44 (fun _ h9 => h9) rfl dX2_rulesThatForbid_31 ?_
      refine va_get (D := (dC, dI)) (ci := 0) (v := .int (iB 9)) (C := RX0) (T := TX0) (N := 15) hx hb hts ki0 hown hK hP 11 rfl rfl 9 (by decide) kf93 (fun _ h9 => h9) rfl dX2_rulesThatForbid_34 ?_
      refine lv_icmp_ge (tgt := 91) hx hb dX2_rulesThatForbid_37 (by decide) (fun cz => ?_) (fun cz => ?_)
      · have h := g_t h cz
        refine lv_iload_n hx hb dX2_rulesThatForbid_91 rfl (lv_at hl 2 rfl) ?_
        have h' := Option.some.inj h
        rw [← hQQ]
        exact W.iret (v := v2) hx hb hr (fun t ht hW => ⟨⟨v2, (), rfl, by rw [← h'], by rw [← hWQ, ← h', ht]; exact hP, va_K.moved hW.alike hK⟩, hS.F ht⟩) hS.2.2 dX2_rulesThatForbid_92
      · have h := g_f h cz
        refine lv_iload_n hx hb dX2_rulesThatForbid_40 rfl (lv_at hl 2 rfl) ?_
        refine lv_iconst (v := 1) hx hb dX2_rulesThatForbid_41 (by decide) ?_
        refine lv_iload_n hx hb dX2_rulesThatForbid_42 rfl (lv_at hl 3 rfl) ?_
        refine lv_ishl hx hb dX2_rulesThatForbid_43 ?_
        refine lv_iconst (v := (-1)) hx hb dX2_rulesThatForbid_44 (by decide) ?_
        refine lv_ixor hx hb dX2_rulesThatForbid_45 ?_
        refine lv_iand hx hb dX2_rulesThatForbid_46 ?_
        refine lv_istore (lv' := [(4, .int ((v2 &&& (((1 : Int32) <<< (v3 &&& 31)) ^^^ (-1 : Int32))))), (0, .ref (ad 0)), (1, .int v1), (2, .int v2), (3, .int v3)]) hx hb dX2_rulesThatForbid_47 hl (by decide) rfl (fun ls hl => ?_)
        refine lv_aload_n hx hb dX2_rulesThatForbid_49 rfl (lv_at hl 1 rfl) ?_
        refine lv_iload hx hb dX2_rulesThatForbid_50 (lv_at hl 0 rfl) ?_
        refine lv_aload_n hx hb dX2_rulesThatForbid_52 rfl (lv_at hl 1 rfl) ?_
        refine va_get (D := (dC, dI)) (ci := 2) (v := .ref (ad 7)) (C := RX2) (T := TX2) (N := 15) hx hb hts ki2 hown hK hP 0 rfl rfl 10 (by decide) kf31 (fun _ h9 => h9) rfl dX2_rulesThatForbid_53 ?_
        obtain ⟨q56, e56, h⟩ := g_b h
        refine callVvs (cc := cX2_rulesThatForbid) (w1 := zzK ad cy (ad 11) (ad 18) iK (us lK [(10, q56), (11, x_lK11), (12, x_lK12)]) (us aK [(13, x_aK13)]) iB lB aB iC aC) (As := [.int ((v2 &&& (((1 : Int32) <<< (v3 &&& 31)) ^^^ (-1 : Int32)))), .ref (ad 7)]) (rest := []) ⟨hx, hb, hml, hown, hts⟩ (c_K_takeFair_trial l dC dI cy ad H.size N ((v2 &&& (((1 : Int32) <<< (v3 &&& 31)) ^^^ (-1 : Int32)))) iK ((us lK [(10, x_lK10), (11, x_lK11), (12, x_lK12)])) ((us aK [(13, x_aK13)])) iB lB aB iC aC q56 e56) (cwV 2 hts (goodV m_ml_X2_96 m_im_X2_takeFair m_se_X2_takeFair m_in_X2 m_cd_X2_takeFair) rfl rfl rfl (by decide +kernel) ⟨Nat.le_of_ble_eq_true rfl, Nat.le_of_ble_eq_true rfl⟩) hN hK hP hD hS hA rfl 0 rfl rfl rfl hl.1 rfl (Nat.le_of_ble_eq_true rfl) dX2_rulesThatForbid_56 ⟨Nat.zero_le _, Nat.zero_le _⟩ (fun H locs hP hD hS => ?_)
        refine lv_aload_n hx hb dX2_rulesThatForbid_59 rfl (lv_at hl 1 rfl) ?_
        refine lv_aload_n hx hb dX2_rulesThatForbid_60 rfl (lv_at hl 1 rfl) ?_
        refine va_get (D := (dC, dI)) (ci := 2) (v := .ref (ad 7)) (C := RX2) (T := TX2) (N := 15) hx hb hts ki2 hown hK hP 0 rfl rfl 10 (by decide) kf31 (fun _ h9 => h9) rfl dX2_rulesThatForbid_61 ?_
        refine lv_iconst (v := 0) hx hb dX2_rulesThatForbid_64 (by decide) ?_
        obtain ⟨q65, e65, h⟩ := g_b h
        refine callVis (cc := cX2_rulesThatForbid) (w1 := zzK ad cy (ad 11) (ad 18) iK (us lK [(10, q65.2.1), (11, q65.2.2.1), (12, q65.2.2.2.1)]) (us aK [(13, q65.2.2.2.2)]) iB lB aB iC aC) (As := [.ref (ad 7), .int ((0 : Int32))]) (rest := []) ⟨hx, hb, hml, hown, hts⟩ (c_K_settle_trial l dC dI cy ad H.size N ((0 : Int32)) iK ((us lK [(10, q56), (11, x_lK11), (12, x_lK12)])) ((us aK [(13, x_aK13)])) iB lB aB iC aC q65 e65) (cwV 2 hts (goodV m_ml_X2_110 m_im_X2_settle m_se_X2_settle m_in_X2 m_cd_X2_settle) rfl rfl rfl (by decide +kernel) ⟨Nat.le_of_ble_eq_true rfl, Nat.le_of_ble_eq_true rfl⟩) hN hK hP hD hS hA rfl 0 rfl rfl rfl hl.1 rfl (Nat.le_of_ble_eq_true rfl) dX2_rulesThatForbid_65 ⟨Nat.zero_le _, Nat.zero_le _⟩ (fun H locs hP hD hS => ?_)
        refine lv_pop hx hb dX2_rulesThatForbid_68 rfl ?_
        refine lv_aload_n hx hb dX2_rulesThatForbid_69 rfl (lv_at hl 1 rfl) ?_
        refine lv_iload_n hx hb dX2_rulesThatForbid_70 rfl (lv_at hl 2 rfl) ?_
        refine lv_aload_n hx hb dX2_rulesThatForbid_71 rfl (lv_at hl 1 rfl) ?_
        refine va_get (D := (dC, dI)) (ci := 2) (v := .ref (ad 7)) (C := RX2) (T := TX2) (N := 15) hx hb hts ki2 hown hK hP 0 rfl rfl 10 (by decide) kf31 (fun _ h9 => h9) rfl dX2_rulesThatForbid_72 ?_
        obtain ⟨q75, e75, h⟩ := g_b h
        refine callVis (cc := cX2_rulesThatForbid) (w1 := zzK ad cy (ad 11) (ad 18) iK (us lK [(10, q65.2.1), (11, q65.2.2.1), (12, q65.2.2.2.1)]) (us aK [(13, q65.2.2.2.2)]) iB lB aB iC aC) (As := [.int v1, .ref (ad 7)]) (rest := []) ⟨hx, hb, hml, hown, hts⟩ (c_K_leastWhere_trial l dC dI cy ad H.size N v1 iK ((us lK [(10, q65.2.1), (11, q65.2.2.1), (12, q65.2.2.2.1)])) ((us aK [(13, q65.2.2.2.2)])) iB lB aB iC aC q75 e75) (cwV 2 hts (goodV m_ml_X2_184 m_im_X2_leastWhere m_se_X2_leastWhere m_in_X2 m_cd_X2_leastWhere) rfl rfl rfl (by decide +kernel) ⟨Nat.le_of_ble_eq_true rfl, Nat.le_of_ble_eq_true rfl⟩) hN hK hP hD hS hA rfl 0 rfl rfl rfl hl.1 rfl (Nat.le_of_ble_eq_true rfl) dX2_rulesThatForbid_75 ⟨Nat.zero_le _, Nat.zero_le _⟩ (fun H locs hP hD hS => ?_)
        refine lv_iconst (v := (-1)) hx hb dX2_rulesThatForbid_78 (by decide) ?_
        refine lv_icmp_ne (tgt := 85) hx hb dX2_rulesThatForbid_79 (by decide) (fun cz => ?_) (fun cz => ?_)
        · have h := g_f h cz
          refine lv_iinc (v := (v3 + (1 : Int32))) (lv' := [(3, .int ((v3 + (1 : Int32)))), (4, .int ((v2 &&& (((1 : Int32) <<< (v3 &&& 31)) ^^^ (-1 : Int32))))), (0, .ref (ad 0)), (1, .int v1), (2, .int v2)]) hx hb dX2_rulesThatForbid_85 hl (k := 4) rfl rfl (by decide) rfl (fun ls hl => ?_)
          refine lv_goto (tgt := 29) hx hb dX2_rulesThatForbid_88 (by decide) ?_
          exact ih v1 v2 ((v3 + (1 : Int32))) q65.2.1 q65.2.2.1 q65.2.2.2.1 q65.2.2.2.2 H locs ls h hP hD hS (lv_sub hl [2, 3, 4, 0] rfl)
        · have h := g_t h cz
          refine lv_iload hx hb dX2_rulesThatForbid_82 (lv_at hl 0 rfl) ?_
          refine lv_istore_n (lv' := [(2, .int ((v2 &&& (((1 : Int32) <<< (v3 &&& 31)) ^^^ (-1 : Int32))))), (4, .int ((v2 &&& (((1 : Int32) <<< (v3 &&& 31)) ^^^ (-1 : Int32))))), (0, .ref (ad 0)), (1, .int v1), (3, .int v3)]) hx hb dX2_rulesThatForbid_84 rfl hl (by decide) rfl (fun ls hl => ?_)
          refine lv_iinc (v := (v3 + (1 : Int32))) (lv' := [(3, .int ((v3 + (1 : Int32)))), (2, .int ((v2 &&& (((1 : Int32) <<< (v3 &&& 31)) ^^^ (-1 : Int32))))), (4, .int ((v2 &&& (((1 : Int32) <<< (v3 &&& 31)) ^^^ (-1 : Int32))))), (0, .ref (ad 0)), (1, .int v1)]) hx hb dX2_rulesThatForbid_85 hl (k := 4) rfl rfl (by decide) rfl (fun ls hl => ?_)
          refine lv_goto (tgt := 29) hx hb dX2_rulesThatForbid_88 (by decide) ?_
          exact ih v1 ((v2 &&& (((1 : Int32) <<< (v3 &&& 31)) ^^^ (-1 : Int32)))) ((v3 + (1 : Int32))) q65.2.1 q65.2.2.1 q65.2.2.2.1 q65.2.2.2.2 H locs ls h hP hD hS (lv_sub hl [3, 4, 1, 0] rfl)
  intro H locs hP hD hS
  unfold f_K_rulesThatForbid at h
  refine lv_aload_n hx hb dX2_rulesThatForbid_0 rfl (lv_at hl 0 rfl) ?_
  refine lv_iload_n hx hb dX2_rulesThatForbid_1 rfl (lv_at hl 1 rfl) ?_
  refine lv_aload_n hx hb dX2_rulesThatForbid_2 rfl (lv_at hl 0 rfl) ?_
  refine va_get (D := (dC, dI)) (ci := 2) (v := .ref (ad 6)) (C := RX2) (T := TX2) (N := 15) hx hb hts ki2 hown hK hP 0 rfl rfl 9 (by decide) kf28 (fun _ h9 => h9) rfl dX2_rulesThatForbid_3 ?_
  obtain ⟨q6, e6, h⟩ := g_b h
  refine callVis (cc := cX2_rulesThatForbid) (w1 := zzK ad cy (ad 11) (ad 18) iK lK aK iB lB aB iC aC) (As := [.int a1, .ref (ad 6)]) (rest := []) ⟨hx, hb, hml, hown, hts⟩ (c_K_leastWhere_standing l dC dI cy ad H.size N a1 iK lK aK iB lB aB iC aC q6 e6) (cwV 2 hts (goodV m_ml_X2_184 m_im_X2_leastWhere m_se_X2_leastWhere m_in_X2 m_cd_X2_leastWhere) rfl rfl rfl (by decide +kernel) ⟨Nat.le_of_ble_eq_true rfl, Nat.le_of_ble_eq_true rfl⟩) hN hK hP hD hS hA rfl 0 rfl rfl rfl hl.1 rfl (Nat.le_of_ble_eq_true rfl) dX2_rulesThatForbid_6 ⟨Nat.zero_le _, Nat.zero_le _⟩ (fun H locs hP hD hS => ?_)
  refine lv_iconst (v := (-1)) hx hb dX2_rulesThatForbid_9 (by decide) ?_
  refine lv_icmp_eq (tgt := 15) hx hb dX2_rulesThatForbid_10 (by decide) (fun cz => ?_) (fun cz => ?_)
  · have h := g_t h cz
    refine lv_iconst (v := 1) hx hb dX2_rulesThatForbid_15 (by decide) ?_
    refine lv_aload_n hx hb dX2_rulesThatForbid_16 rfl (lv_at hl 0 rfl) ?_
    refine va_get (D := (dC, dI)) (ci := 2) (v := .ref (ad 11)) (C := RX2) (T := TX2) (N := 15) hx hb hts ki2 hown hK hP 0 rfl rfl 0 (by decide) kf44 (fun _ h9 => h9) rfl dX2_rulesThatForbid_17 ?_
    refine va_get (D := (dC, dI)) (ci := 0) (v := .int (iB 9)) (C := RX0) (T := TX0) (N := 15) hx hb hts ki0 hown hK hP 11 rfl rfl 9 (by decide) kf93 (fun _ h9 => h9) rfl dX2_rulesThatForbid_20 ?_
    refine lv_ishl hx hb dX2_rulesThatForbid_23 ?_
    refine lv_iconst (v := 1) hx hb dX2_rulesThatForbid_24 (by decide) ?_
    refine lv_isub hx hb dX2_rulesThatForbid_25 ?_
    refine lv_istore_n (lv' := [(2, .int ((((1 : Int32) <<< ((iB 9) &&& 31)) - (1 : Int32)))), (0, .ref (ad 0)), (1, .int a1)]) hx hb dX2_rulesThatForbid_26 rfl hl (by decide) rfl (fun ls hl => ?_)
    refine lv_iconst (v := 0) hx hb dX2_rulesThatForbid_27 (by decide) ?_
    refine lv_istore_n (lv' := [(3, .int ((0 : Int32))), (2, .int ((((1 : Int32) <<< ((iB 9) &&& 31)) - (1 : Int32)))), (0, .ref (ad 0)), (1, .int a1)]) hx hb dX2_rulesThatForbid_28 rfl hl (by decide) rfl (fun ls hl => ?_)
    exact B29 N a1 ((((1 : Int32) <<< ((iB 9) &&& 31)) - (1 : Int32))) ((0 : Int32)) (lK 10) (lK 11) (lK 12) (aK 13) H locs ls h hP hD hS (lv_sub hl [2, 3, 1, 0] rfl)
  · have h := g_f h cz
    refine lv_iconst (v := (-1)) hx hb dX2_rulesThatForbid_13 (by decide) ?_
    have h' := Option.some.inj h
    rw [← hQQ]
    exact W.iret (v := (-1 : Int32)) hx hb hr (fun t ht hW => ⟨⟨(-1 : Int32), (), rfl, by rw [← h'], by rw [← hWQ, ← h', ht]; exact hP, va_K.moved hW.alike hK⟩, hS.F ht⟩) hS.2.2 dX2_rulesThatForbid_14
