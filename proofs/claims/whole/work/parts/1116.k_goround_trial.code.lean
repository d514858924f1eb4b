def f_K_goRound_trial_65 (N : Nat) (iB13 : Int32) (iC9 : Int32) (aC5 : Nat → Int32) (iK2 : Int32) (iK7 : Int32) (lK4 : Nat → Int64) (lK10 : Nat → Int64) (lK11 : Nat → Int64) (lK12 : Nat → Int64) (aK5 : Nat → Int32) (aK6 : Nat → Int32) (aK13 : Nat → Int32) (k17 : Int32 → Int32 → (Nat → Int64) → (Nat → Int64) → (Nat → Int32) → Option (Int32 × (Nat → Int64) × (Nat → Int64) × (Nat → Int64) × (Nat → Int32))) (v2 : Int32) (v3 : Int32) (v4 : Int32) (v5 : Int32) (x_lK10 : Nat → Int64) (x_lK11 : Nat → Int64) (x_lK12 : Nat → Int64) (x_aK13 : Nat → Int32) : Option (Int32 × (Nat → Int64) × (Nat → Int64) × (Nat → Int64) × (Nat → Int32)) := (f_K_has 8 v4 x_lK11).bind fun q71 => (if q71 = 0 then (k17 v3 ((v4 + (1 : Int32))) x_lK10 x_lK12 x_aK13) else ((f_K_has 8 v5 x_lK12).bind fun q83 => (if q83 = 0 then ((f_K_put 8 v4 ((0 : Int32)) x_lK10).bind fun q93 => (if v2 ≤ 0 then (k17 ((1 : Int32)) ((v4 + (1 : Int32))) q93 x_lK12 x_aK13) else (if v4 < 0 ∨ 512 ≤ v4.toNatClampNeg then none else (k17 ((1 : Int32)) ((v4 + (1 : Int32))) q93 x_lK12 ((upd x_aK13 v4.toNatClampNeg (vp_nar .short (v2).toInt16.toInt32))))))) else (k17 v3 ((v4 + (1 : Int32))) x_lK10 x_lK12 x_aK13))))
def f_K_goRound_trial_17 (N : Nat) (iB13 : Int32) (iC9 : Int32) (aC5 : Nat → Int32) (iK2 : Int32) (iK7 : Int32) (lK4 : Nat → Int64) (lK10 : Nat → Int64) (lK11 : Nat → Int64) (lK12 : Nat → Int64) (aK5 : Nat → Int32) (aK6 : Nat → Int32) (aK13 : Nat → Int32) (v2 : Int32) (x_lK11 : Nat → Int64) : Nat → Int32 → Int32 → (Nat → Int64) → (Nat → Int64) → (Nat → Int32) → Option (Int32 × (Nat → Int64) × (Nat → Int64) × (Nat → Int64) × (Nat → Int32))
  | 0, _, _, _, _, _ => none
  | n + 1, v3, v4, x_lK10, x_lK12, x_aK13 => if iK2 ≤ v4 then (if vp_nar .boolean v3 = v3 then (some (v3, x_lK10, x_lK11, x_lK12, x_aK13)) else none) else (if (512 : Int32) ≤ v4 then (if vp_nar .boolean v3 = v3 then (some (v3, x_lK10, x_lK11, x_lK12, x_aK13)) else none) else (if (v4 &&& iK7) = v4 then ((f_K_isMet N v4 iB13 iC9 aC5 lK4 x_lK11 aK5 aK6).bind fun q59 => ((f_K_put 8 v4 q59 x_lK12).bind fun q62 => (f_K_goRound_trial_65 N iB13 iC9 aC5 iK2 iK7 lK4 lK10 lK11 lK12 aK5 aK6 aK13 (f_K_goRound_trial_17 N iB13 iC9 aC5 iK2 iK7 lK4 lK10 lK11 lK12 aK5 aK6 aK13 v2 x_lK11 n) v2 v3 v4 ((v4 &&& iK7)) x_lK10 x_lK11 q62 x_aK13))) else (f_K_goRound_trial_65 N iB13 iC9 aC5 iK2 iK7 lK4 lK10 lK11 lK12 aK5 aK6 aK13 (f_K_goRound_trial_17 N iB13 iC9 aC5 iK2 iK7 lK4 lK10 lK11 lK12 aK5 aK6 aK13 v2 x_lK11 n) v2 v3 v4 ((v4 &&& iK7)) x_lK10 x_lK11 x_lK12 x_aK13)))
def f_K_goRound_trial (N : Nat) (a2 : Int32) (iB13 : Int32) (iC9 : Int32) (aC5 : Nat → Int32) (iK2 : Int32) (iK7 : Int32) (lK4 : Nat → Int64) (lK10 : Nat → Int64) (lK11 : Nat → Int64) (lK12 : Nat → Int64) (aK5 : Nat → Int32) (aK6 : Nat → Int32) (aK13 : Nat → Int32) : Option (Int32 × (Nat → Int64) × (Nat → Int64) × (Nat → Int64) × (Nat → Int32)) := f_K_goRound_trial_17 N iB13 iC9 aC5 iK2 iK7 lK4 lK10 lK11 lK12 aK5 aK6 aK13 a2 ((va_cpy lK10 lK11 ((0 : Int32)).toNatClampNeg ((0 : Int32)).toNatClampNeg ((8 : Int32)).toNatClampNeg)) N ((0 : Int32)) ((0 : Int32)) lK10 lK12 aK13
set_option maxHeartbeats 8000000 in
set_option maxRecDepth 100000 in
theorem c_K_goRound_trial (l : Launch) (dC : Nat → ClassId) (dI : Nat → Nat → Nat) (cy : Nat → ClassId) (ad : Nat → Nat) (sz : Nat) (N : Nat) (a2 : Int32) (iK : Nat → Int32) (lK : Nat → Nat → Int64) (aK : Nat → Nat → Int32) (iB : Nat → Int32) (lB : Nat → Nat → Int64) (aB : Nat → Nat → Int32) (iC : Nat → Int32) (aC : Nat → Nat → Int32) (q : Int32 × (Nat → Int64) × (Nat → Int64) × (Nat → Int64) × (Nat → Int32)) (h : f_K_goRound_trial N a2 (iB 13) (iC 9) (aC 5) (iK 2) (iK 7) (lK 4) (lK 10) (lK 11) (lK 12) (aK 5) (aK 6) (aK 13) = some q) : Met l yX2_goRound wsX2_goRound ({ frames := 4, cells := 0, slots := 0, locals := 100 } : Room) (cP (dC, dI) cy [.ref (ad 0), .ref (ad 7), .int a2] (zzK ad cy (ad 11) (ad 18) iK lK aK iB lB aB iC aC) sz) (cQi (dC, dI) cy q.1 (zzK ad cy (ad 11) (ad 18) iK (us lK [(10, q.2.1), (11, q.2.2.1), (12, q.2.2.2.1)]) (us aK [(13, q.2.2.2.2)]) iB lB aB iC aC) (va_A (zzK ad cy (ad 11) (ad 18) iK lK aK iB lB aB iC aC) sz)) 0 0 (va_A (zzK ad cy (ad 11) (ad 18) iK lK aK iB lB aB iC aC) sz) := by
  refine Met.ofW (cc := cX2_goRound) (maxL := 6) (ret := (some .boolean)) (by decide) rfl ?_
  intro p e s m args below meth c s₁ B hml hv
  obtain ⟨hav, hsz, hP, hK, hD0, hN⟩ := hv
  have hx := B.exec
  have hb := B.bytes
  have hr := B.returns
  have hts := atoms_spec (ws := wsX2_goRound) B.pre
  have hown : s.vm.findClass RX2 = some m.cls := findClass_of_methodNamed B.named
  have hlocks := B.notSynchronized
  subst hsz
  have hD := hD0.self (sz := s.heap.size)
  generalize hAe : va_A (zzK ad cy (ad 11) (ad 18) iK lK aK iB lB aB iC aC) s.heap.size = A at hD ⊢
  have hA : ∀ q : Nat, s.heap.size ≤ q → A q := fun q h => by rw [← hAe]; exact Or.inr h
  have hS : va_S A s.heap s.heap [] := va_S.rf
  generalize hWQ : (zzK ad cy (ad 11) (ad 18) iK (us lK [(10, q.2.1), (11, q.2.2.1), (12, q.2.2.2.1)]) (us aK [(13, q.2.2.2.2)]) iB lB aB iC aC) = WQ
  generalize hQQ : MQ below (cQi (dC, dI) cy q.1 WQ A) args s 0 0 A = QQ
  have hl := lv_entry ([.ref (ad 0), .ref (ad 7), .int a2] : List Value) (n := 6) (Nat.le_of_ble_eq_true rfl)
  have hfr := lg_entry_eq m ([.ref (ad 0), .ref (ad 7), .int a2] : List Value) 6
  rw [← hav] at hfr
  rw [hfr]
  clear hfr hav
  generalize (lg_sl ([.ref (ad 0), .ref (ad 7), .int a2] : List Value) ++ List.replicate (6 - (lg_sl ([.ref (ad 0), .ref (ad 7), .int a2] : List Value)).length) Slot.unset).toArray = ls at hl ⊢
  have hl : lv_has ls 6 [(0, .ref (ad 0)), (1, .ref (ad 7)), (2, .int a2)] := hl
  have kf34 := hts _ (List.mem_cons_of_mem _ m_fl_X2_34)
  have ki2 := (fun w h => List.mem_cons_of_mem _ (i_X2 w h) : ∀ w ∈ u_ws RX2 TX2 15, w ∈ wsX2_goRound)
  have kf37 := hts _ (List.mem_cons_of_mem _ m_fl_X2_37)
  have kf40 := hts _ (List.mem_cons_of_mem _ m_fl_X2_40)
  have kf67 := hts _ (List.mem_cons_of_mem _ m_fl_X2_67)
  have kf144 := hts _ (List.mem_cons_of_mem _ m_fl_X2_144)
  have ka1 := hts _ (List.mem_cons_of_mem _ m_ml_X2_100)
  have ka2 := hts _ (List.mem_cons_of_mem _ m_na_java_lang_System_arraycopy)
  have ka3 := hts _ (List.mem_cons_of_mem _ m_st_java_lang_System_arraycopy)
  have ka4 := hts _ (List.mem_cons_of_mem _ m_in_java_lang_System)
  refine (?_ : ∀ (H : Heap) (locs : List Loc), va_P (dC, dI) vwCl (zzK ad cy (ad 11) (ad 18) iK lK aK iB lB aB iC aC) H → va_D A (zzK ad cy (ad 11) (ad 18) iK lK aK iB lB aB iC aC) → va_S A s.heap H locs → W p l e ({ frames := 4, cells := 0, slots := 0, locals := 100 } : Room) s m args below meth c H locs 0 0 QQ (F0 m 0 ls [])) s.heap [] hP hD hS
  clear hP hD hS
  have B65 : ∀ (v2 : Int32) (v3 : Int32) (v4 : Int32) (v5 : Int32) (x_lK10 : Nat → Int64) (x_lK11 : Nat → Int64) (x_lK12 : Nat → Int64) (x_aK13 : Nat → Int32) (k17 : Int32 → Int32 → (Nat → Int64) → (Nat → Int64) → (Nat → Int32) → Option (Int32 × (Nat → Int64) × (Nat → Int64) × (Nat → Int64) × (Nat → Int32))) (hk17 : ∀ (v3' : Int32) (v4' : Int32) (x_lK10' : Nat → Int64) (x_lK12' : Nat → Int64) (x_aK13' : Nat → Int32) (H : Heap) (locs : List Loc) (ls : Array Slot), k17 v3' v4' x_lK10' x_lK12' x_aK13' = some q → va_P (dC, dI) vwCl (zzK ad cy (ad 11) (ad 18) iK (us lK [(10, x_lK10'), (11, x_lK11), (12, x_lK12')]) (us aK [(13, x_aK13')]) iB lB aB iC aC) H → va_D A (zzK ad cy (ad 11) (ad 18) iK (us lK [(10, x_lK10'), (11, x_lK11), (12, x_lK12')]) (us aK [(13, x_aK13')]) iB lB aB iC aC) → va_S A s.heap H locs → lv_has ls 6 [(0, .ref (ad 0)), (1, .ref (ad 7)), (2, .int v2), (3, .int v3'), (4, .int v4')] → W p l e ({ frames := 4, cells := 0, slots := 0, locals := 100 } : Room) s m args below meth c H locs 0 0 QQ (F0 m 17 ls [])) (H : Heap) (locs : List Loc) (ls : Array Slot), f_K_goRound_trial_65 N (iB 13) (iC 9) (aC 5) (iK 2) (iK 7) (lK 4) (lK 10) (lK 11) (lK 12) (aK 5) (aK 6) (aK 13) k17 v2 v3 v4 v5 x_lK10 x_lK11 x_lK12 x_aK13 = some q → va_P (dC, dI) vwCl (zzK ad cy (ad 11) (ad 18) iK (us lK [(10, x_lK10), (11, x_lK11), (12, x_lK12)]) (us aK [(13, x_aK13)]) iB lB aB iC aC) H → va_D A (zzK ad cy (ad 11) (ad 18) iK (us lK [(10, x_lK10), (11, x_lK11), (12, x_lK12)]) (us aK [(13, x_aK13)]) iB lB aB iC aC) → va_S A s.heap H locs → lv_has ls 6 [(0, .ref (ad 0)), (1, .ref (ad 7)), (2, .int v2), (3, .int v3), (4, .int v4), (5, .int v5)] → W p l e ({ frames := 4, cells := 0, slots := 0, locals := 100 } : Room) s m args below meth c H locs 0 0 QQ (F0 m 65 ls []) := by
    intro v2 v3 v4 v5 x_lK10 x_lK11 x_lK12 x_aK13 k17 hk17 H locs ls h hP hD hS hl
    unfold f_K_goRound_trial_65 at h
    refine lv_aload_n hx hb dX2_goRound_65 rfl (lv_at hl 0 rfl) ?_
    refine va_get (D := (dC, dI)) (ci := 2) (v := .ref (ad 8)) (C := RX2) (T := TX2) (N := 15) hx hb hts ki2 hown hK hP 0 rfl rfl 11 (by decide) kf34 (fun _ h9 => h9) rfl dX2_goRound_66 ?_
    refine lv_iload hx hb dX2_goRound_69 (lv_at hl 4 rfl) ?_
    obtain ⟨q71, e71, h⟩ := g_b h
    refine callSi (cc := cX2_goRound) (ws' := zzK ad cy (ad 11) (ad 18) iK (us lK [(10, x_lK10), (11, x_lK11), (12, x_lK12)]) (us aK [(13, x_aK13)]) iB lB aB iC aC) (As := [.ref (ad 8), .int v4]) (rest := []) ⟨hx, hb, hml, hown, hts⟩ (c_K_has l dC dI cy (fun i => ad (i + 8)) H.size 8 v4 x_lK11 q71 e71) (va_cwS 2 hts (goodS m_ml_X2_106 m_st_X2_has m_in_X2 m_cd_X2_has) rfl rfl rfl (by decide +kernel) ⟨Nat.le_of_ble_eq_true rfl, Nat.le_of_ble_eq_true rfl⟩) hN hK hP hD hS hA [8] [none, none, none, none, none, none, none, none, some 0, none, none, none, none, none, none, none, none, none, none, none, none, none, none, none, none, none, none] rfl rfl rfl rfl rfl rfl rfl hl.1 rfl (Nat.le_of_ble_eq_true rfl) dX2_goRound_71 ⟨Nat.zero_le _, Nat.zero_le _⟩ (fun H locs hP hD hS => ?_)
    refine lv_if_eq (tgt := 111) hx hb dX2_goRound_74 (by decide) (fun cz => ?_) (fun cz => ?_)
    · have h := g_t h cz
      refine lv_iinc (v := (v4 + (1 : Int32))) (lv' := [(4, .int ((v4 + (1 : Int32)))), (0, .ref (ad 0)), (1, .ref (ad 7)), (2, .int v2), (3, .int v3), (5, .int v5)]) hx hb dX2_goRound_111 hl (k := 4) rfl rfl (by decide) rfl (fun ls hl => ?_)
      refine lv_goto (tgt := 17) hx hb dX2_goRound_114 (by decide) ?_
      exact hk17 v3 ((v4 + (1 : Int32))) x_lK10 x_lK12 x_aK13 H locs ls h hP hD hS (lv_sub hl [1, 2, 3, 4, 0] rfl)
    · have h := g_f h cz
      refine lv_aload_n hx hb dX2_goRound_77 rfl (lv_at hl 0 rfl) ?_
      refine va_get (D := (dC, dI)) (ci := 2) (v := .ref (ad 9)) (C := RX2) (T := TX2) (N := 15) hx hb hts ki2 hown hK hP 0 rfl rfl 12 (by decide) kf37 (fun _ h9 => h9) rfl dX2_goRound_78 ?_
      refine lv_iload hx hb dX2_goRound_81 (lv_at hl 5 rfl) ?_
      obtain ⟨q83, e83, h⟩ := g_b h
      refine callSi (cc := cX2_goRound) (ws' := zzK ad cy (ad 11) (ad 18) iK (us lK [(10, x_lK10), (11, x_lK11), (12, x_lK12)]) (us aK [(13, x_aK13)]) iB lB aB iC aC) (As := [.ref (ad 9), .int v5]) (rest := []) ⟨hx, hb, hml, hown, hts⟩ (c_K_has l dC dI cy (fun i => ad (i + 9)) H.size 8 v5 x_lK12 q83 e83) (va_cwS 2 hts (goodS m_ml_X2_106 m_st_X2_has m_in_X2 m_cd_X2_has) rfl rfl rfl (by decide +kernel) ⟨Nat.le_of_ble_eq_true rfl, Nat.le_of_ble_eq_true rfl⟩) hN hK hP hD hS hA [9] [none, none, none, none, none, none, none, none, none, some 0, none, none, none, none, none, none, none, none, none, none, none, none, none, none, none, none, none] rfl rfl rfl rfl rfl rfl rfl hl.1 rfl (Nat.le_of_ble_eq_true rfl) dX2_goRound_83 ⟨Nat.zero_le _, Nat.zero_le _⟩ (fun H locs hP hD hS => ?_)
      refine lv_if_ne (tgt := 111) hx hb dX2_goRound_86 (by decide) (fun cz => ?_) (fun cz => ?_)
      · have h := g_f h cz
        refine lv_iinc (v := (v4 + (1 : Int32))) (lv' := [(4, .int ((v4 + (1 : Int32)))), (0, .ref (ad 0)), (1, .ref (ad 7)), (2, .int v2), (3, .int v3), (5, .int v5)]) hx hb dX2_goRound_111 hl (k := 4) rfl rfl (by decide) rfl (fun ls hl => ?_)
        refine lv_goto (tgt := 17) hx hb dX2_goRound_114 (by decide) ?_
        exact hk17 v3 ((v4 + (1 : Int32))) x_lK10 x_lK12 x_aK13 H locs ls h hP hD hS (lv_sub hl [1, 2, 3, 4, 0] rfl)
      · have h := g_t h cz
        refine lv_aload_n hx hb dX2_goRound_89 rfl (lv_at hl 1 rfl) ?_
        refine lv_iload hx hb dX2_goRound_90 (lv_at hl 4 rfl) ?_
        refine lv_iconst (v := 0) hx hb dX2_goRound_92 (by decide) ?_
        obtain ⟨q93, e93, h⟩ := g_b h
        refine callSv (cc := cX2_goRound) (ws' := zzK ad cy (ad 11) (ad 18) iK (us lK [(10, q93), (11, x_lK11), (12, x_lK12)]) (us aK [(13, x_aK13)]) iB lB aB iC aC) (As := [.ref (ad 7), .int v4, .int ((0 : Int32))]) (rest := []) ⟨hx, hb, hml, hown, hts⟩ (c_K_put l dC dI cy (fun i => ad (i + 7)) H.size 8 v4 ((0 : Int32)) x_lK10 q93 e93) (va_cwS 3 hts (goodS m_ml_X2_169 m_st_X2_put m_in_X2 m_cd_X2_put) rfl rfl rfl (by decide +kernel) ⟨Nat.le_of_ble_eq_true rfl, Nat.le_of_ble_eq_true rfl⟩) hN hK hP hD hS hA [7] [none, none, none, none, none, none, none, some 0, none, none, none, none, none, none, none, none, none, none, none, none, none, none, none, none, none, none, none] rfl rfl rfl rfl rfl rfl rfl hl.1 rfl (Nat.le_of_ble_eq_true rfl) dX2_goRound_93 ⟨Nat.zero_le _, Nat.zero_le _⟩ (fun H locs hP hD hS => ?_)
        refine lv_iconst (v := 1) hx hb dX2_goRound_96 (by decide) ?_
        refine lv_istore_n (lv' := [(3, .int ((1 : Int32))), (0, .ref (ad 0)), (1, .ref (ad 7)), (2, .int v2), (4, .int v4), (5, .int v5)]) hx hb dX2_goRound_97 rfl hl (by decide) rfl (fun ls hl => ?_)
        refine lv_iload_n hx hb dX2_goRound_98 rfl (lv_at hl 3 rfl) ?_
        refine lv_if_le (tgt := 111) hx hb dX2_goRound_99 (by decide) (fun cz => ?_) (fun cz => ?_)
        · have h := g_t h cz
          refine lv_iinc (v := (v4 + (1 : Int32))) (lv' := [(4, .int ((v4 + (1 : Int32)))), (3, .int ((1 : Int32))), (0, .ref (ad 0)), (1, .ref (ad 7)), (2, .int v2), (5, .int v5)]) hx hb dX2_goRound_111 hl (k := 4) rfl rfl (by decide) rfl (fun ls hl => ?_)
          refine lv_goto (tgt := 17) hx hb dX2_goRound_114 (by decide) ?_
          exact hk17 ((1 : Int32)) ((v4 + (1 : Int32))) q93 x_lK12 x_aK13 H locs ls h hP hD hS (lv_sub hl [2, 3, 4, 1, 0] rfl)
        · have h := g_f h cz
          refine lv_aload_n hx hb dX2_goRound_102 rfl (lv_at hl 1 rfl) ?_
          refine va_get (D := (dC, dI)) (ci := 2) (v := .ref (ad 10)) (C := RX2) (T := TX2) (N := 15) hx hb hts ki2 hown hK hP 0 rfl rfl 13 (by decide) kf40 (fun _ h9 => h9) rfl dX2_goRound_103 ?_
          refine lv_iload hx hb dX2_goRound_106 (lv_at hl 4 rfl) ?_
          refine lv_iload_n hx hb dX2_goRound_108 rfl (lv_at hl 3 rfl) ?_
          refine lv_i2s (v := (v2).toInt16.toInt32) hx hb dX2_goRound_109 rfl ?_
          obtain ⟨g_28, h⟩ := g_n h
          refine va_sast (f := x_aK13) hx hb hK hP hD hS 10 3 rfl rfl g_28 dX2_goRound_110 (fun H locs hP hD hS => ?_)
          have hP : va_P (dC, dI) vwCl (zzK ad cy (ad 11) (ad 18) iK (us lK [(10, q93), (11, x_lK11), (12, x_lK12)]) (us aK [(13, (upd x_aK13 v4.toNatClampNeg (vp_nar .short (v2).toInt16.toInt32)))]) iB lB aB iC aC) H := Eq.mp (congrArg (fun w => va_P (dC, dI) vwCl w H) (stK_aK13 ad cy (ad 11) (ad 18) iK (us lK [(10, q93), (11, x_lK11), (12, x_lK12)]) aK iB lB aB iC aC [(13, x_aK13)] ((upd x_aK13 v4.toNatClampNeg (vp_nar .short (v2).toInt16.toInt32))))) hP
          have hD : va_D A (zzK ad cy (ad 11) (ad 18) iK (us lK [(10, q93), (11, x_lK11), (12, x_lK12)]) (us aK [(13, (upd x_aK13 v4.toNatClampNeg (vp_nar .short (v2).toInt16.toInt32)))]) iB lB aB iC aC) := Eq.mp (congrArg (fun w => va_D A w) (stK_aK13 ad cy (ad 11) (ad 18) iK (us lK [(10, q93), (11, x_lK11), (12, x_lK12)]) aK iB lB aB iC aC [(13, x_aK13)] ((upd x_aK13 v4.toNatClampNeg (vp_nar .short (v2).toInt16.toInt32))))) hD
          refine lv_iinc (v := (v4 + (1 : Int32))) (lv' := [(4, .int ((v4 + (1 : Int32)))), (3, .int ((1 : Int32))), (0, .ref (ad 0)), (1, .ref (ad 7)), (2, .int v2), (5, .int v5)]) hx hb dX2_goRound_111 hl (k := 4) rfl rfl (by decide) rfl (fun ls hl => ?_)
          refine lv_goto (tgt := 17) hx hb dX2_goRound_114 (by decide) ?_
          exact hk17 ((1 : Int32)) ((v4 + (1 : Int32))) q93 x_lK12 ((upd x_aK13 v4.toNatClampNeg (vp_nar .short (v2).toInt16.toInt32))) H locs ls h hP hD hS (lv_sub hl [2, 3, 4, 1, 0] rfl)
  have B17 : ∀ (n : Nat) (v2 : Int32) (x_lK11 : Nat → Int64) (v3 : Int32) (v4 : Int32) (x_lK10 : Nat → Int64) (x_lK12 : Nat → Int64) (x_aK13 : Nat → Int32) (H : Heap) (locs : List Loc) (ls : Array Slot), f_K_goRound_trial_17 N (iB 13) (iC 9) (aC 5) (iK 2) (iK 7) (lK 4) (lK 10) (lK 11) (lK 12) (aK 5) (aK 6) (aK 13) v2 x_lK11 n v3 v4 x_lK10 x_lK12 x_aK13 = some q → va_P (dC, dI) vwCl (zzK ad cy (ad 11) (ad 18) iK (us lK [(10, x_lK10), (11, x_lK11), (12, x_lK12)]) (us aK [(13, x_aK13)]) iB lB aB iC aC) H → va_D A (zzK ad cy (ad 11) (ad 18) iK (us lK [(10, x_lK10), (11, x_lK11), (12, x_lK12)]) (us aK [(13, x_aK13)]) iB lB aB iC aC) → va_S A s.heap H locs → lv_has ls 6 [(0, .ref (ad 0)), (1, .ref (ad 7)), (2, .int v2), (3, .int v3), (4, .int v4)] → W p l e ({ frames := 4, cells := 0, slots := 0, locals := 100 } : Room) s m args below meth c H locs 0 0 QQ (F0 m 17 ls []) := by
    intro n
    induction n with
    | zero =>
      intro v2 x_lK11 v3 v4 x_lK10 x_lK12 x_aK13 H locs ls h hP hD hS hl
      rw [f_K_goRound_trial_17] at h
      cases h
    | succ n ih =>
      intro v2 x_lK11 v3 v4 x_lK10 x_lK12 x_aK13 H locs ls h hP hD hS hl
      rw [f_K_goRound_trial_17] at h
      refine lv_iload hx hb dX2_goRound_17 (lv_at hl 4 rfl) ?_
      refine lv_aload_n hx hb dX2_goRound_19 rfl (lv_at hl 0 rfl) ?_
      refine va_get (D := (dC, dI)) (ci := 2) (v := .int (iK 2)) (C := RX2) (T := TX2) (N := 15) hx hb hts ki2 hown hK hP 0 rfl rfl 2 (by decide) kf67 (fun _ h9 => h9) rfl dX2_goRound_20 ?_
      refine lv_icmp_ge (tgt := 117) hx hb dX2_goRound_23 (by decide) (fun cz => ?_) (fun cz => ?_)
      · have h := g_t h cz
        refine lv_iload_n hx hb dX2_goRound_117 rfl (lv_at hl 3 rfl) ?_
        obtain ⟨gz, h⟩ := g_p h
        have h' := Option.some.inj h
        rw [← hQQ]
        exact W.zret (v := v3) hx hb hr (g_zr _ gz) (fun t ht hW => ⟨⟨v3, (), rfl, by rw [← h'], by rw [← hWQ, ← h', ht]; exact hP, va_K.moved hW.alike hK⟩, hS.F ht⟩) hS.2.2 dX2_goRound_118
      · have h := g_f h cz
        refine lv_iload hx hb dX2_goRound_26 (lv_at hl 4 rfl) ?_
        refine lv_sipush (v := 512) hx hb dX2_goRound_28 (by decide) ?_
        refine lv_icmp_ge (tgt := 117) hx hb dX2_goRound_31 (by decide) (fun cz => ?_) (fun cz => ?_)
        · have h := g_t h cz
          refine lv_iload_n hx hb dX2_goRound_117 rfl (lv_at hl 3 rfl) ?_
          obtain ⟨gz, h⟩ := g_p h
          have h' := Option.some.inj h
          rw [← hQQ]
          exact W.zret (v := v3) hx hb hr (g_zr _ gz) (fun t ht hW => ⟨⟨v3, (), rfl, by rw [← h'], by rw [← hWQ, ← h', ht]; exact hP, va_K.moved hW.alike hK⟩, hS.F ht⟩) hS.2.2 dX2_goRound_118
        · have h := g_f h cz
          refine lv_iload hx hb dX2_goRound_34 (lv_at hl 4 rfl) ?_
          refine lv_aload_n hx hb dX2_goRound_36 rfl (lv_at hl 0 rfl) ?_
          refine va_get (D := (dC, dI)) (ci := 2) (v := .int (iK 7)) (C := RX2) (T := TX2) (N := 15) hx hb hts ki2 hown hK hP 0 rfl rfl 7 (by decide) kf144 (fun _ h9 => h9) rfl dX2_goRound_37 ?_
          refine lv_iand hx hb dX2_goRound_40 ?_
          refine lv_istore (lv' := [(5, .int ((v4 &&& (iK 7)))), (0, .ref (ad 0)), (1, .ref (ad 7)), (2, .int v2), (3, .int v3), (4, .int v4)]) hx hb dX2_goRound_41 hl (by decide) rfl (fun ls hl => ?_)
          refine lv_iload hx hb dX2_goRound_43 (lv_at hl 0 rfl) ?_
          refine lv_iload hx hb dX2_goRound_45 (lv_at hl 5 rfl) ?_
          refine lv_icmp_ne (tgt := 65) hx hb dX2_goRound_47 (by decide) (fun cz => ?_) (fun cz => ?_)
          · have h := g_f h cz
            exact B65 v2 v3 v4 ((v4 &&& (iK 7))) x_lK10 x_lK11 x_lK12 x_aK13 (f_K_goRound_trial_17 N (iB 13) (iC 9) (aC 5) (iK 2) (iK 7) (lK 4) (lK 10) (lK 11) (lK 12) (aK 5) (aK 6) (aK 13) v2 x_lK11 n) (ih v2 x_lK11) H locs ls h hP hD hS (lv_sub hl [1, 2, 3, 4, 5, 0] rfl)
          · have h := g_t h cz
            refine lv_aload_n hx hb dX2_goRound_50 rfl (lv_at hl 1 rfl) ?_
            refine va_get (D := (dC, dI)) (ci := 2) (v := .ref (ad 9)) (C := RX2) (T := TX2) (N := 15) hx hb hts ki2 hown hK hP 0 rfl rfl 12 (by decide) kf37 (fun _ h9 => h9) rfl dX2_goRound_51 ?_
            refine lv_iload hx hb dX2_goRound_54 (lv_at hl 5 rfl) ?_
            refine lv_aload_n hx hb dX2_goRound_56 rfl (lv_at hl 1 rfl) ?_
            refine lv_iload hx hb dX2_goRound_57 (lv_at hl 5 rfl) ?_
            obtain ⟨q59, e59, h⟩ := g_b h
            refine callVis (cc := cX2_goRound) (w1 := zzK ad cy (ad 11) (ad 18) iK (us lK [(10, x_lK10), (11, x_lK11), (12, x_lK12)]) (us aK [(13, x_aK13)]) iB lB aB iC aC) (As := [.int v4]) (rest := [.int v4, .ref (ad 9)]) ⟨hx, hb, hml, hown, hts⟩ (c_K_isMet l dC dI cy ad H.size N v4 iK ((us lK [(10, x_lK10), (11, x_lK11), (12, x_lK12)])) ((us aK [(13, x_aK13)])) iB lB aB iC aC q59 e59) (cwV 1 hts (goodV m_ml_X2_166 m_im_X2_isMet m_se_X2_isMet m_in_X2 m_cd_X2_isMet) rfl rfl rfl (by decide +kernel) ⟨Nat.le_of_ble_eq_true rfl, Nat.le_of_ble_eq_true rfl⟩) hN hK hP hD hS hA rfl 0 rfl rfl rfl hl.1 rfl (Nat.le_of_ble_eq_true rfl) dX2_goRound_59 ⟨Nat.zero_le _, Nat.zero_le _⟩ (fun H locs hP hD hS => ?_)
            obtain ⟨q62, e62, h⟩ := g_b h
            refine callSv (cc := cX2_goRound) (ws' := zzK ad cy (ad 11) (ad 18) iK (us lK [(10, x_lK10), (11, x_lK11), (12, q62)]) (us aK [(13, x_aK13)]) iB lB aB iC aC) (As := [.ref (ad 9), .int v4, .int q59]) (rest := []) ⟨hx, hb, hml, hown, hts⟩ (c_K_put l dC dI cy (fun i => ad (i + 9)) H.size 8 v4 q59 x_lK12 q62 e62) (va_cwS 3 hts (goodS m_ml_X2_169 m_st_X2_put m_in_X2 m_cd_X2_put) rfl rfl rfl (by decide +kernel) ⟨Nat.le_of_ble_eq_true rfl, Nat.le_of_ble_eq_true rfl⟩) hN hK hP hD hS hA [9] [none, none, none, none, none, none, none, none, none, some 0, none, none, none, none, none, none, none, none, none, none, none, none, none, none, none, none, none] rfl rfl rfl rfl rfl rfl rfl hl.1 rfl (Nat.le_of_ble_eq_true rfl) dX2_goRound_62 ⟨Nat.zero_le _, Nat.zero_le _⟩ (fun H locs hP hD hS => ?_)
            exact B65 v2 v3 v4 ((v4 &&& (iK 7))) x_lK10 x_lK11 q62 x_aK13 (f_K_goRound_trial_17 N (iB 13) (iC 9) (aC 5) (iK 2) (iK 7) (lK 4) (lK 10) (lK 11) (lK 12) (aK 5) (aK 6) (aK 13) v2 x_lK11 n) (ih v2 x_lK11) H locs ls h hP hD hS (lv_sub hl [1, 2, 3, 4, 5, 0] rfl)
  intro H locs hP hD hS
  unfold f_K_goRound_trial at h
  refine lv_aload_n hx hb dX2_goRound_0 rfl (lv_at hl 1 rfl) ?_
  refine lv_iconst (v := 0) hx hb dX2_goRound_1 (by decide) ?_
  refine lv_aload_n hx hb dX2_goRound_2 rfl (lv_at hl 0 rfl) ?_
  refine va_get (D := (dC, dI)) (ci := 2) (v := .ref (ad 8)) (C := RX2) (T := TX2) (N := 15) hx hb hts ki2 hown hK hP 0 rfl rfl 11 (by decide) kf34 (fun _ h9 => h9) rfl dX2_goRound_3 ?_
  refine lv_iconst (v := 0) hx hb dX2_goRound_6 (by decide) ?_
  refine lv_bipush (v := 8) hx hb dX2_goRound_7 (by decide) ?_
  refine va_copyl (f := (lK 10)) (g := (lK 11)) hx hb (by rw [hml]; exact hl.1.symm) hown ka1 ka2 ka3 ka4 hK hP hD hS 7 8 2 2 rfl rfl rfl rfl rfl (by decide) (by decide) (by decide) (by decide) (by decide) (fun _ _ => rfl) (Nat.le_of_ble_eq_true rfl) (Nat.le_of_ble_eq_true rfl) dX2_goRound_9 (fun H locs hP hD hS => ?_)
  have hP : va_P (dC, dI) vwCl (zzK ad cy (ad 11) (ad 18) iK (us lK [(11, (va_cpy (lK 10) (lK 11) ((0 : Int32)).toNatClampNeg ((0 : Int32)).toNatClampNeg ((8 : Int32)).toNatClampNeg))]) aK iB lB aB iC aC) H := Eq.mp (congrArg (fun w => va_P (dC, dI) vwCl w H) (sfK_lK11 ad cy (ad 11) (ad 18) iK lK aK iB lB aB iC aC ((va_cpy (lK 10) (lK 11) ((0 : Int32)).toNatClampNeg ((0 : Int32)).toNatClampNeg ((8 : Int32)).toNatClampNeg)))) hP
  have hD : va_D A (zzK ad cy (ad 11) (ad 18) iK (us lK [(11, (va_cpy (lK 10) (lK 11) ((0 : Int32)).toNatClampNeg ((0 : Int32)).toNatClampNeg ((8 : Int32)).toNatClampNeg))]) aK iB lB aB iC aC) := Eq.mp (congrArg (fun w => va_D A w) (sfK_lK11 ad cy (ad 11) (ad 18) iK lK aK iB lB aB iC aC ((va_cpy (lK 10) (lK 11) ((0 : Int32)).toNatClampNeg ((0 : Int32)).toNatClampNeg ((8 : Int32)).toNatClampNeg)))) hD
  refine lv_iconst (v := 0) hx hb dX2_goRound_12 (by decide) ?_
  refine lv_istore_n (lv' := [(3, .int ((0 : Int32))), (0, .ref (ad 0)), (1, .ref (ad 7)), (2, .int a2)]) hx hb dX2_goRound_13 rfl hl (by decide) rfl (fun ls hl => ?_)
  refine lv_iconst (v := 0) hx hb dX2_goRound_14 (by decide) ?_
  refine lv_istore (lv' := [(4, .int ((0 : Int32))), (3, .int ((0 : Int32))), (0, .ref (ad 0)), (1, .ref (ad 7)), (2, .int a2)]) hx hb dX2_goRound_15 hl (by decide) rfl (fun ls hl => ?_)
  exact B17 N a2 ((va_cpy (lK 10) (lK 11) ((0 : Int32)).toNatClampNeg ((0 : Int32)).toNatClampNeg ((8 : Int32)).toNatClampNeg)) ((0 : Int32)) ((0 : Int32)) (lK 10) (lK 12) (aK 13) H locs ls h hP hD hS (lv_sub hl [2, 3, 4, 1, 0] rfl)
