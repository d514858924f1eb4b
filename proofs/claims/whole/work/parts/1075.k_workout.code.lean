def f_K_workOut_53 (N : Nat) (iK : Nat → Int32) (lK : Nat → Nat → Int64) (aK : Nat → Nat → Int32) (iB : Nat → Int32) (lB : Nat → Nat → Int64) (aB : Nat → Nat → Int32) (iC : Nat → Int32) (aC : Nat → Nat → Int32) (k33 : Int32 → (Nat → Nat → Int64) → Option ((Nat → Int32) × (Nat → Nat → Int64) × (Nat → Nat → Int32))) (v2 : Int32) (x_iK : Nat → Int32) : Nat → Int32 → (Nat → Nat → Int64) → Option ((Nat → Int32) × (Nat → Nat → Int64) × (Nat → Nat → Int32))
  | 0, _, _ => none
  | n + 1, v3, x_lK => if (8 : Int32) ≤ v3 then (k33 ((v2 + (1 : Int32))) x_lK) else ((f_K_truthWord v2 v3 ((iC 4)) ((aC 0)) ((aC 1)) ((aC 2)) ((aC 3)) ((x_lK 3))).bind fun q72 => (if ((v2 * (8 : Int32)) + v3) < 0 ∨ 1600 ≤ (((v2 * (8 : Int32)) + v3)).toNatClampNeg then none else (f_K_workOut_53 N iK lK aK iB lB aB iC aC k33 v2 x_iK n ((v3 + (1 : Int32))) ((us x_lK [(3, (vp_updL ((x_lK 3)) (((v2 * (8 : Int32)) + v3)).toNatClampNeg q72))])))))
def f_K_workOut_162 (N : Nat) (iK : Nat → Int32) (lK : Nat → Nat → Int64) (aK : Nat → Nat → Int32) (iB : Nat → Int32) (lB : Nat → Nat → Int64) (aB : Nat → Nat → Int32) (iC : Nat → Int32) (aC : Nat → Nat → Int32) (k109 : Int32 → (Nat → Nat → Int64) → Option ((Nat → Int32) × (Nat → Nat → Int64) × (Nat → Nat → Int32))) (v2 : Int32) (v3 : Int32) (s1 : Int32) (s2 : Int64) (x_iK : Nat → Int32) (x_lK : Nat → Nat → Int64) : Option ((Nat → Int32) × (Nat → Nat → Int64) × (Nat → Nat → Int32)) := if s1 < 0 ∨ 72 ≤ s1.toNatClampNeg then none else (k109 ((v3 + (1 : Int32))) ((us x_lK [(4, (vp_updL ((x_lK 4)) s1.toNatClampNeg s2))])))
def f_K_workOut_109 (N : Nat) (iK : Nat → Int32) (lK : Nat → Nat → Int64) (aK : Nat → Nat → Int32) (iB : Nat → Int32) (lB : Nat → Nat → Int64) (aB : Nat → Nat → Int32) (iC : Nat → Int32) (aC : Nat → Nat → Int32) (k90 : Int32 → (Nat → Nat → Int64) → Option ((Nat → Int32) × (Nat → Nat → Int64) × (Nat → Nat → Int32))) (v2 : Int32) (x_iK : Nat → Int32) : Nat → Int32 → (Nat → Nat → Int64) → Option ((Nat → Int32) × (Nat → Nat → Int64) × (Nat → Nat → Int32))
  | 0, _, _ => none
  | n + 1, v3, x_lK => if (8 : Int32) ≤ v3 then (k90 ((v2 + (1 : Int32))) x_lK) else ((f_C_partOfAtom v2 ((iC 9)) ((aC 7))).bind fun q121 => ((f_K_truthOf q121 v3 ((x_lK 3))).bind fun q125 => ((f_C_isTurned v2 ((iC 9)) ((aC 8))).bind fun q145 => (if q145 = 0 then (f_K_workOut_162 N iK lK aK iB lB aB iC aC (f_K_workOut_109 N iK lK aK iB lB aB iC aC k90 v2 x_iK n) v2 v3 (((v2 * (8 : Int32)) + v3)) q125 x_iK x_lK) else (f_K_workOut_162 N iK lK aK iB lB aB iC aC (f_K_workOut_109 N iK lK aK iB lB aB iC aC k90 v2 x_iK n) v2 v3 (((v2 * (8 : Int32)) + v3)) ((q125 ^^^ (-1 : Int64))) x_iK x_lK)))))
def f_K_workOut_251 (N : Nat) (iK : Nat → Int32) (lK : Nat → Nat → Int64) (aK : Nat → Nat → Int32) (iB : Nat → Int32) (lB : Nat → Nat → Int64) (aB : Nat → Nat → Int32) (iC : Nat → Int32) (aC : Nat → Nat → Int32) (k215 : Int32 → (Nat → Nat → Int32) → Option ((Nat → Int32) × (Nat → Nat → Int64) × (Nat → Nat → Int32))) (v2 : Int32) (s1 : Int32) (s2 : Int32) (x_iK : Nat → Int32) (x_lK : Nat → Nat → Int64) (x_aK : Nat → Nat → Int32) : Option ((Nat → Int32) × (Nat → Nat → Int64) × (Nat → Nat → Int32)) := if s1 < 0 ∨ 512 ≤ s1.toNatClampNeg then none else (k215 ((v2 + (1 : Int32))) ((us x_aK [(13, (upd ((x_aK 13)) s1.toNatClampNeg (vp_nar .short (s2).toInt16.toInt32)))])))
def f_K_workOut_259 (N : Nat) (iK : Nat → Int32) (lK : Nat → Nat → Int64) (aK : Nat → Nat → Int32) (iB : Nat → Int32) (lB : Nat → Nat → Int64) (aB : Nat → Nat → Int32) (iC : Nat → Int32) (aC : Nat → Nat → Int32) (x_iK : Nat → Int32) (x_lK : Nat → Nat → Int64) (x_aK : Nat → Nat → Int32) : Option ((Nat → Int32) × (Nat → Nat → Int64) × (Nat → Nat → Int32)) := (f_K_settle_standing N ((1 : Int32)) ((iB 13)) ((iC 9)) ((aC 5)) ((x_iK 2)) ((x_iK 7)) ((x_lK 4)) ((x_lK 9)) ((x_lK 11)) ((x_lK 12)) ((x_aK 5)) ((x_aK 6)) ((x_aK 13))).bind fun q266 => (some ((us x_iK [(14, q266.1)]), (us x_lK [(9, q266.2.1), (11, q266.2.2.1), (12, q266.2.2.2.1)]), (us x_aK [(13, q266.2.2.2.2)])))
def f_K_workOut_215 (N : Nat) (iK : Nat → Int32) (lK : Nat → Nat → Int64) (aK : Nat → Nat → Int32) (iB : Nat → Int32) (lB : Nat → Nat → Int64) (aB : Nat → Nat → Int32) (iC : Nat → Int32) (aC : Nat → Nat → Int32) (x_iK : Nat → Int32) (x_lK : Nat → Nat → Int64) : Nat → Int32 → (Nat → Nat → Int32) → Option ((Nat → Int32) × (Nat → Nat → Int64) × (Nat → Nat → Int32))
  | 0, _, _ => none
  | n + 1, v2, x_aK => if (x_iK 2) ≤ v2 then (f_K_workOut_259 N iK lK aK iB lB aB iC aC x_iK x_lK x_aK) else (if (512 : Int32) ≤ v2 then (f_K_workOut_259 N iK lK aK iB lB aB iC aC x_iK x_lK x_aK) else ((f_K_has 8 v2 ((x_lK 8))).bind fun q240 => (if q240 = 0 then (f_K_workOut_251 N iK lK aK iB lB aB iC aC (f_K_workOut_215 N iK lK aK iB lB aB iC aC x_iK x_lK n) v2 v2 ((0 : Int32)) x_iK x_lK x_aK) else (f_K_workOut_251 N iK lK aK iB lB aB iC aC (f_K_workOut_215 N iK lK aK iB lB aB iC aC x_iK x_lK n) v2 v2 ((-1 : Int32)) x_iK x_lK x_aK))))
def f_K_workOut_175 (N : Nat) (iK : Nat → Int32) (lK : Nat → Nat → Int64) (aK : Nat → Nat → Int32) (iB : Nat → Int32) (lB : Nat → Nat → Int64) (aB : Nat → Nat → Int32) (iC : Nat → Int32) (aC : Nat → Nat → Int32) (x_iK : Nat → Int32) (x_lK : Nat → Nat → Int64) : Option ((Nat → Int32) × (Nat → Nat → Int64) × (Nat → Nat → Int32)) := (f_K_gatherAtoms N ((aB 12)) ((iC 9)) ((aC 5)) ((x_iK 7)) ((aK 5)) ((aK 6))).bind fun q176 => ((f_K_takeFair_fair N ((((1 : Int32) <<< ((iB 9) &&& 31)) - (1 : Int32))) ((iB 9)) ((aB 8)) ((x_iK 2)) ((x_lK 3)) ((x_lK 8))).bind fun q195 => (f_K_workOut_215 N iK lK aK iB lB aB iC aC ((us x_iK [(7, q176.1)])) ((us x_lK [(8, q195), (9, (va_cpy q195 ((x_lK 9)) ((0 : Int32)).toNatClampNeg ((0 : Int32)).toNatClampNeg ((8 : Int32)).toNatClampNeg))])) N ((0 : Int32)) ((us aK [(5, q176.2.1), (6, q176.2.2)]))))
def f_K_workOut_90 (N : Nat) (iK : Nat → Int32) (lK : Nat → Nat → Int64) (aK : Nat → Nat → Int32) (iB : Nat → Int32) (lB : Nat → Nat → Int64) (aB : Nat → Nat → Int32) (iC : Nat → Int32) (aC : Nat → Nat → Int32) (x_iK : Nat → Int32) : Nat → Int32 → (Nat → Nat → Int64) → Option ((Nat → Int32) × (Nat → Nat → Int64) × (Nat → Nat → Int32))
  | 0, _, _ => none
  | n + 1, v2, x_lK => if (iC 9) ≤ v2 then (f_K_workOut_175 N iK lK aK iB lB aB iC aC x_iK x_lK) else (if (9 : Int32) ≤ v2 then (f_K_workOut_175 N iK lK aK iB lB aB iC aC x_iK x_lK) else (f_K_workOut_109 N iK lK aK iB lB aB iC aC (f_K_workOut_90 N iK lK aK iB lB aB iC aC x_iK n) v2 x_iK N ((0 : Int32)) x_lK))
def f_K_workOut_33 (N : Nat) (iK : Nat → Int32) (lK : Nat → Nat → Int64) (aK : Nat → Nat → Int32) (iB : Nat → Int32) (lB : Nat → Nat → Int64) (aB : Nat → Nat → Int32) (iC : Nat → Int32) (aC : Nat → Nat → Int32) (x_iK : Nat → Int32) : Nat → Int32 → (Nat → Nat → Int64) → Option ((Nat → Int32) × (Nat → Nat → Int64) × (Nat → Nat → Int32))
  | 0, _, _ => none
  | n + 1, v2, x_lK => if (iC 4) ≤ v2 then (f_K_workOut_90 N iK lK aK iB lB aB iC aC x_iK N ((0 : Int32)) x_lK) else (if (200 : Int32) ≤ v2 then (f_K_workOut_90 N iK lK aK iB lB aB iC aC x_iK N ((0 : Int32)) x_lK) else (f_K_workOut_53 N iK lK aK iB lB aB iC aC (f_K_workOut_33 N iK lK aK iB lB aB iC aC x_iK n) v2 x_iK N ((0 : Int32)) x_lK))
def f_K_workOut (N : Nat) (iK : Nat → Int32) (lK : Nat → Nat → Int64) (aK : Nat → Nat → Int32) (iB : Nat → Int32) (lB : Nat → Nat → Int64) (aB : Nat → Nat → Int32) (iC : Nat → Int32) (aC : Nat → Nat → Int32) : Option ((Nat → Int32) × (Nat → Nat → Int64) × (Nat → Nat → Int32)) := f_K_workOut_33 N iK lK aK iB lB aB iC aC ((us iK [(2, ((1 : Int32) <<< ((if (9 : Int32) < (iC 9) then (9 : Int32) else (iC 9)) &&& 31)))])) N ((0 : Int32)) lK
set_option maxHeartbeats 8000000 in
set_option maxRecDepth 100000 in
theorem c_K_workOut (l : Launch) (dC : Nat → ClassId) (dI : Nat → Nat → Nat) (cy : Nat → ClassId) (ad : Nat → Nat) (sz : Nat) (kb : Nat) (kc : Nat) (N : Nat) (iK : Nat → Int32) (lK : Nat → Nat → Int64) (aK : Nat → Nat → Int32) (iB : Nat → Int32) (lB : Nat → Nat → Int64) (aB : Nat → Nat → Int32) (iC : Nat → Int32) (aC : Nat → Nat → Int32) (q : (Nat → Int32) × (Nat → Nat → Int64) × (Nat → Nat → Int32)) (h : f_K_workOut N iK lK aK iB lB aB iC aC = some q) : Met l yX2_workOut wsX2_workOut ({ frames := 6, cells := 0, slots := 0, locals := 148 } : Room) (cP (dC, dI) cy [.ref (ad 0), .ref (ad 11)] (zzK ad cy kb kc iK lK aK iB lB aB iC aC) sz) (cQv (dC, dI) cy (zzK ad cy (ad 11) (ad 18) q.1 q.2.1 q.2.2 iB lB aB iC aC) (va_A (zzK ad cy kb kc iK lK aK iB lB aB iC aC) sz)) 0 0 (va_A (zzK ad cy kb kc iK lK aK iB lB aB iC aC) sz) := by
  refine Met.ofW (cc := cX2_workOut) (maxL := 6) (ret := none) (by decide) rfl ?_
  intro p e s m args below meth c s₁ B hml hv
  obtain ⟨hav, hsz, hP, hK, hD0, hN⟩ := hv
  have hx := B.exec
  have hb := B.bytes
  have hr := B.returns
  have hts := atoms_spec (ws := wsX2_workOut) B.pre
  have hown : s.vm.findClass RX2 = some m.cls := findClass_of_methodNamed B.named
  have hlocks := B.notSynchronized
  subst hsz
  have hD := hD0.self (sz := s.heap.size)
  generalize hAe : va_A (zzK ad cy kb kc iK lK aK iB lB aB iC aC) s.heap.size = A at hD ⊢
  have hA : ∀ q : Nat, s.heap.size ≤ q → A q := fun q h => by rw [← hAe]; exact Or.inr h
  have hS : va_S A s.heap s.heap [] := va_S.rf
  generalize hWQ : (zzK ad cy (ad 11) (ad 18) q.1 q.2.1 q.2.2 iB lB aB iC aC) = WQ
  generalize hQQ : MQ below (cQv (dC, dI) cy WQ A) args s 0 0 A = QQ
  have hl := lv_entry ([.ref (ad 0), .ref (ad 11)] : List Value) (n := 6) (Nat.le_of_ble_eq_true rfl)
  have hfr := lg_entry_eq m ([.ref (ad 0), .ref (ad 11)] : List Value) 6
  rw [← hav] at hfr
  rw [hfr]
  clear hfr hav
  generalize (lg_sl ([.ref (ad 0), .ref (ad 11)] : List Value) ++ List.replicate (6 - (lg_sl ([.ref (ad 0), .ref (ad 11)] : List Value)).length) Slot.unset).toArray = ls at hl ⊢
  have hl : lv_has ls 6 [(0, .ref (ad 0)), (1, .ref (ad 11))] := hl
  have kf9 := hts _ (List.mem_cons_of_mem _ m_fl_X2_9)
  have ki2 := (fun w h => List.mem_cons_of_mem _ (i_X2 w h) : ∀ w ∈ u_ws RX2 TX2 15, w ∈ wsX2_workOut)
  have kf54 := hts _ (List.mem_cons_of_mem _ m_fl_X2_54)
  have kf15 := hts _ (List.mem_cons_of_mem _ m_fl_X2_15)
  have kc88 := hts _ (List.mem_cons_of_mem _ m_kl_X2_88)
  have kf28 := hts _ (List.mem_cons_of_mem _ m_fl_X2_28)
  have kf114 := hts _ (List.mem_cons_of_mem _ m_fl_X2_114)
  have kf67 := hts _ (List.mem_cons_of_mem _ m_fl_X2_67)
  have kf40 := hts _ (List.mem_cons_of_mem _ m_fl_X2_40)
  have kf25 := hts _ (List.mem_cons_of_mem _ m_fl_X2_25)
  have kf44 := hts _ (List.mem_cons_of_mem _ m_fl_X2_44)
  have kf93 := hts _ (List.mem_cons_of_mem _ m_fl_X2_93)
  have ki0 := (fun w h => List.mem_cons_of_mem _ (i_X0 w h) : ∀ w ∈ u_ws RX0 TX0 15, w ∈ wsX2_workOut)
  have ka1 := hts _ (List.mem_cons_of_mem _ m_ml_X2_100)
  have ka2 := hts _ (List.mem_cons_of_mem _ m_na_java_lang_System_arraycopy)
  have ka3 := hts _ (List.mem_cons_of_mem _ m_st_java_lang_System_arraycopy)
  have ka4 := hts _ (List.mem_cons_of_mem _ m_in_java_lang_System)
  have kf55 := hts _ (List.mem_cons_of_mem _ m_fl_X2_55)
  have ki1 := (fun w h => List.mem_cons_of_mem _ (i_X1 w h) : ∀ w ∈ u_ws RX1 TX1 10, w ∈ wsX2_workOut)
  have kf70 := hts _ (List.mem_cons_of_mem _ m_fl_X2_70)
  have kf48 := hts _ (List.mem_cons_of_mem _ m_fl_X2_48)
  have km1 := hts _ (List.mem_cons_of_mem _ m_ml_X2_61)
  have km2 := hts _ (List.mem_cons_of_mem _ m_st_java_lang_Math_min)
  have km3 := hts _ (List.mem_cons_of_mem _ m_in_java_lang_Math)
  have km4 := hts _ (List.mem_cons_of_mem _ m_cd_java_lang_Math_min)
  refine (?_ : ∀ (H : Heap) (locs : List Loc), va_P (dC, dI) vwCl (zzK ad cy kb kc iK lK aK iB lB aB iC aC) H → va_D A (zzK ad cy kb kc iK lK aK iB lB aB iC aC) → va_S A s.heap H locs → W p l e ({ frames := 6, cells := 0, slots := 0, locals := 148 } : Room) s m args below meth c H locs 0 0 QQ (F0 m 0 ls [])) s.heap [] hP hD hS
  clear hP hD hS
  have B53 : ∀ (n : Nat) (v2 : Int32) (x_iK : Nat → Int32) (k33 : Int32 → (Nat → Nat → Int64) → Option ((Nat → Int32) × (Nat → Nat → Int64) × (Nat → Nat → Int32))) (hk33 : ∀ (v2' : Int32) (x_lK' : Nat → Nat → Int64) (H : Heap) (locs : List Loc) (ls : Array Slot), k33 v2' x_lK' = some q → va_P (dC, dI) vwCl (zzK ad cy (ad 11) (ad 18) x_iK x_lK' aK iB lB aB iC aC) H → va_D A (zzK ad cy (ad 11) (ad 18) x_iK x_lK' aK iB lB aB iC aC) → va_S A s.heap H locs → lv_has ls 6 [(0, .ref (ad 0)), (2, .int v2')] → W p l e ({ frames := 6, cells := 0, slots := 0, locals := 148 } : Room) s m args below meth c H locs 0 0 QQ (F0 m 33 ls [])) (v3 : Int32) (x_lK : Nat → Nat → Int64) (H : Heap) (locs : List Loc) (ls : Array Slot), f_K_workOut_53 N iK lK aK iB lB aB iC aC k33 v2 x_iK n v3 x_lK = some q → va_P (dC, dI) vwCl (zzK ad cy (ad 11) (ad 18) x_iK x_lK aK iB lB aB iC aC) H → va_D A (zzK ad cy (ad 11) (ad 18) x_iK x_lK aK iB lB aB iC aC) → va_S A s.heap H locs → lv_has ls 6 [(0, .ref (ad 0)), (2, .int v2), (3, .int v3)] → W p l e ({ frames := 6, cells := 0, slots := 0, locals := 148 } : Room) s m args below meth c H locs 0 0 QQ (F0 m 53 ls []) := by
    intro n
    induction n with
    | zero =>
      intro v2 x_iK k33 hk33 v3 x_lK H locs ls h hP hD hS hl
      rw [f_K_workOut_53] at h
      cases h
    | succ n ih =>
      intro v2 x_iK k33 hk33 v3 x_lK H locs ls h hP hD hS hl
      rw [f_K_workOut_53] at h
      refine lv_iload_n hx hb dX2_workOut_53 rfl (lv_at hl 2 rfl) ?_
      refine lv_bipush (v := 8) hx hb dX2_workOut_54 (by decide) ?_
      refine lv_icmp_ge (tgt := 82) hx hb dX2_workOut_56 (by decide) (fun cz => ?_) (fun cz => ?_)
      · have h := g_t h cz
        refine lv_iinc (v := (v2 + (1 : Int32))) (lv' := [(2, .int ((v2 + (1 : Int32)))), (0, .ref (ad 0)), (3, .int v3)]) hx hb dX2_workOut_82 hl (k := 1) rfl rfl (by decide) rfl (fun ls hl => ?_)
        refine lv_goto (tgt := 33) hx hb dX2_workOut_85 (by decide) ?_
        exact hk33 ((v2 + (1 : Int32))) x_lK H locs ls h hP hD hS (lv_sub hl [1, 0] rfl)
      · have h := g_f h cz
        refine lv_aload_n hx hb dX2_workOut_59 rfl (lv_at hl 0 rfl) ?_
        refine va_get (D := (dC, dI)) (ci := 2) (v := .ref (ad 1)) (C := RX2) (T := TX2) (N := 15) hx hb hts ki2 hown hK hP 0 rfl rfl 3 (by decide) kf9 (fun _ h9 => h9) rfl dX2_workOut_60 ?_
        refine lv_iload_n hx hb dX2_workOut_63 rfl (lv_at hl 1 rfl) ?_
        refine lv_bipush (v := 8) hx hb dX2_workOut_64 (by decide) ?_
        refine lv_imul hx hb dX2_workOut_66 ?_
        refine lv_iload_n hx hb dX2_workOut_67 rfl (lv_at hl 2 rfl) ?_
        refine lv_iadd hx hb dX2_workOut_68 ?_
        refine lv_aload_n hx hb dX2_workOut_69 rfl (lv_at hl 0 rfl) ?_
        refine lv_iload_n hx hb dX2_workOut_70 rfl (lv_at hl 1 rfl) ?_
        refine lv_iload_n hx hb dX2_workOut_71 rfl (lv_at hl 2 rfl) ?_
        obtain ⟨q72, e72, h⟩ := g_b h
        refine callVls (cc := cX2_workOut) (w1 := zzK ad cy (ad 11) (ad 18) x_iK x_lK aK iB lB aB iC aC) (As := [.int v2, .int v3]) (rest := [.int (((v2 * (8 : Int32)) + v3)), .ref (ad 1)]) ⟨hx, hb, hml, hown, hts⟩ (c_K_truthWord l dC dI cy ad H.size v2 v3 x_iK x_lK aK iB lB aB iC aC q72 e72) (cwV 2 hts (goodV m_ml_X2_73 m_im_X2_truthWord m_se_X2_truthWord m_in_X2 m_cd_X2_truthWord) rfl rfl rfl (by decide +kernel) ⟨Nat.le_of_ble_eq_true rfl, Nat.le_of_ble_eq_true rfl⟩) hN hK hP hD hS hA rfl 0 rfl rfl rfl hl.1 rfl (Nat.le_of_ble_eq_true rfl) dX2_workOut_72 ⟨Nat.zero_le _, Nat.zero_le _⟩ (fun H locs hP hD hS => ?_)
        obtain ⟨g_29, h⟩ := g_n h
        refine va_last (f := (x_lK 3)) hx hb hK hP hD hS 1 2 rfl rfl g_29 dX2_workOut_75 (fun H locs hP hD hS => ?_)
        have hP : va_P (dC, dI) vwCl (zzK ad cy (ad 11) (ad 18) x_iK (us x_lK [(3, (vp_updL ((x_lK 3)) (((v2 * (8 : Int32)) + v3)).toNatClampNeg q72))]) aK iB lB aB iC aC) H := Eq.mp (congrArg (fun w => va_P (dC, dI) vwCl w H) (sfK_lK3 ad cy (ad 11) (ad 18) x_iK x_lK aK iB lB aB iC aC ((vp_updL ((x_lK 3)) (((v2 * (8 : Int32)) + v3)).toNatClampNeg q72)))) hP
        have hD : va_D A (zzK ad cy (ad 11) (ad 18) x_iK (us x_lK [(3, (vp_updL ((x_lK 3)) (((v2 * (8 : Int32)) + v3)).toNatClampNeg q72))]) aK iB lB aB iC aC) := Eq.mp (congrArg (fun w => va_D A w) (sfK_lK3 ad cy (ad 11) (ad 18) x_iK x_lK aK iB lB aB iC aC ((vp_updL ((x_lK 3)) (((v2 * (8 : Int32)) + v3)).toNatClampNeg q72)))) hD
        refine lv_iinc (v := (v3 + (1 : Int32))) (lv' := [(3, .int ((v3 + (1 : Int32)))), (0, .ref (ad 0)), (2, .int v2)]) hx hb dX2_workOut_76 hl (k := 2) rfl rfl (by decide) rfl (fun ls hl => ?_)
        refine lv_goto (tgt := 53) hx hb dX2_workOut_79 (by decide) ?_
        exact ih v2 x_iK k33 hk33 ((v3 + (1 : Int32))) ((us x_lK [(3, (vp_updL ((x_lK 3)) (((v2 * (8 : Int32)) + v3)).toNatClampNeg q72))])) H locs ls h hP hD hS (lv_sub hl [1, 2, 0] rfl)
  have B162 : ∀ (v2 : Int32) (v3 : Int32) (s1 : Int32) (s2 : Int64) (x_iK : Nat → Int32) (x_lK : Nat → Nat → Int64) (k109 : Int32 → (Nat → Nat → Int64) → Option ((Nat → Int32) × (Nat → Nat → Int64) × (Nat → Nat → Int32))) (hk109 : ∀ (v3' : Int32) (x_lK' : Nat → Nat → Int64) (H : Heap) (locs : List Loc) (ls : Array Slot), k109 v3' x_lK' = some q → va_P (dC, dI) vwCl (zzK ad cy (ad 11) (ad 18) x_iK x_lK' aK iB lB aB iC aC) H → va_D A (zzK ad cy (ad 11) (ad 18) x_iK x_lK' aK iB lB aB iC aC) → va_S A s.heap H locs → lv_has ls 6 [(0, .ref (ad 0)), (2, .int v2), (3, .int v3')] → W p l e ({ frames := 6, cells := 0, slots := 0, locals := 148 } : Room) s m args below meth c H locs 0 0 QQ (F0 m 109 ls [])) (H : Heap) (locs : List Loc) (ls : Array Slot), f_K_workOut_162 N iK lK aK iB lB aB iC aC k109 v2 v3 s1 s2 x_iK x_lK = some q → va_P (dC, dI) vwCl (zzK ad cy (ad 11) (ad 18) x_iK x_lK aK iB lB aB iC aC) H → va_D A (zzK ad cy (ad 11) (ad 18) x_iK x_lK aK iB lB aB iC aC) → va_S A s.heap H locs → lv_has ls 6 [(0, .ref (ad 0)), (2, .int v2), (3, .int v3)] → W p l e ({ frames := 6, cells := 0, slots := 0, locals := 148 } : Room) s m args below meth c H locs 0 0 QQ (F0 m 162 ls [.long s2, .int s1, .ref (ad 2)]) := by
    intro v2 v3 s1 s2 x_iK x_lK k109 hk109 H locs ls h hP hD hS hl
    unfold f_K_workOut_162 at h
    obtain ⟨g_30, h⟩ := g_n h
    refine va_last (f := (x_lK 4)) hx hb hK hP hD hS 2 2 rfl rfl g_30 dX2_workOut_162 (fun H locs hP hD hS => ?_)
    have hP : va_P (dC, dI) vwCl (zzK ad cy (ad 11) (ad 18) x_iK (us x_lK [(4, (vp_updL ((x_lK 4)) s1.toNatClampNeg s2))]) aK iB lB aB iC aC) H := Eq.mp (congrArg (fun w => va_P (dC, dI) vwCl w H) (sfK_lK4 ad cy (ad 11) (ad 18) x_iK x_lK aK iB lB aB iC aC ((vp_updL ((x_lK 4)) s1.toNatClampNeg s2)))) hP
    have hD : va_D A (zzK ad cy (ad 11) (ad 18) x_iK (us x_lK [(4, (vp_updL ((x_lK 4)) s1.toNatClampNeg s2))]) aK iB lB aB iC aC) := Eq.mp (congrArg (fun w => va_D A w) (sfK_lK4 ad cy (ad 11) (ad 18) x_iK x_lK aK iB lB aB iC aC ((vp_updL ((x_lK 4)) s1.toNatClampNeg s2)))) hD
    refine lv_iinc (v := (v3 + (1 : Int32))) (lv' := [(3, .int ((v3 + (1 : Int32)))), (0, .ref (ad 0)), (2, .int v2)]) hx hb dX2_workOut_163 hl (k := 2) rfl rfl (by decide) rfl (fun ls hl => ?_)
    refine lv_goto (tgt := 109) hx hb dX2_workOut_166 (by decide) ?_
    exact hk109 ((v3 + (1 : Int32))) ((us x_lK [(4, (vp_updL ((x_lK 4)) s1.toNatClampNeg s2))])) H locs ls h hP hD hS (lv_sub hl [1, 2, 0] rfl)
  have B109 : ∀ (n : Nat) (v2 : Int32) (x_iK : Nat → Int32) (k90 : Int32 → (Nat → Nat → Int64) → Option ((Nat → Int32) × (Nat → Nat → Int64) × (Nat → Nat → Int32))) (hk90 : ∀ (v2' : Int32) (x_lK' : Nat → Nat → Int64) (H : Heap) (locs : List Loc) (ls : Array Slot), k90 v2' x_lK' = some q → va_P (dC, dI) vwCl (zzK ad cy (ad 11) (ad 18) x_iK x_lK' aK iB lB aB iC aC) H → va_D A (zzK ad cy (ad 11) (ad 18) x_iK x_lK' aK iB lB aB iC aC) → va_S A s.heap H locs → lv_has ls 6 [(0, .ref (ad 0)), (2, .int v2')] → W p l e ({ frames := 6, cells := 0, slots := 0, locals := 148 } : Room) s m args below meth c H locs 0 0 QQ (F0 m 90 ls [])) (v3 : Int32) (x_lK : Nat → Nat → Int64) (H : Heap) (locs : List Loc) (ls : Array Slot), f_K_workOut_109 N iK lK aK iB lB aB iC aC k90 v2 x_iK n v3 x_lK = some q → va_P (dC, dI) vwCl (zzK ad cy (ad 11) (ad 18) x_iK x_lK aK iB lB aB iC aC) H → va_D A (zzK ad cy (ad 11) (ad 18) x_iK x_lK aK iB lB aB iC aC) → va_S A s.heap H locs → lv_has ls 6 [(0, .ref (ad 0)), (2, .int v2), (3, .int v3)] → W p l e ({ frames := 6, cells := 0, slots := 0, locals := 148 } : Room) s m args below meth c H locs 0 0 QQ (F0 m 109 ls []) := by
    intro n
    induction n with
    | zero =>
      intro v2 x_iK k90 hk90 v3 x_lK H locs ls h hP hD hS hl
      rw [f_K_workOut_109] at h
      cases h
    | succ n ih =>
      intro v2 x_iK k90 hk90 v3 x_lK H locs ls h hP hD hS hl
      rw [f_K_workOut_109] at h
      refine lv_iload_n hx hb dX2_workOut_109 rfl (lv_at hl 2 rfl) ?_
      refine lv_bipush (v := 8) hx hb dX2_workOut_110 (by decide) ?_
      refine lv_icmp_ge (tgt := 169) hx hb dX2_workOut_112 (by decide) (fun cz => ?_) (fun cz => ?_)
      · have h := g_t h cz
        refine lv_iinc (v := (v2 + (1 : Int32))) (lv' := [(2, .int ((v2 + (1 : Int32)))), (0, .ref (ad 0)), (3, .int v3)]) hx hb dX2_workOut_169 hl (k := 1) rfl rfl (by decide) rfl (fun ls hl => ?_)
        refine lv_goto (tgt := 90) hx hb dX2_workOut_172 (by decide) ?_
        exact hk90 ((v2 + (1 : Int32))) x_lK H locs ls h hP hD hS (lv_sub hl [1, 0] rfl)
      · have h := g_f h cz
        refine lv_aload_n hx hb dX2_workOut_115 rfl (lv_at hl 0 rfl) ?_
        refine lv_aload_n hx hb dX2_workOut_116 rfl (lv_at hl 0 rfl) ?_
        refine va_get (D := (dC, dI)) (ci := 2) (v := .ref (ad 18)) (C := RX2) (T := TX2) (N := 15) hx hb hts ki2 hown hK hP 0 rfl rfl 1 (by decide) kf54 (fun _ h9 => h9) rfl dX2_workOut_117 ?_
        refine lv_iload_n hx hb dX2_workOut_120 rfl (lv_at hl 1 rfl) ?_
        obtain ⟨q121, e121, h⟩ := g_b h
        refine callVi (cc := cX2_workOut) (ws' := zzK ad cy (ad 11) (ad 18) x_iK x_lK aK iB lB aB iC aC) (As := [.int v2]) (rest := [.ref (ad 0)]) ⟨hx, hb, hml, hown, hts⟩ (c_C_partOfAtom l dC dI cy (fun i => ad (i + 18)) H.size v2 iC aC q121 e121) (cwV 1 hts (goodV m_ml_X2_77 m_im_X1_partOfAtom m_se_X1_partOfAtom m_in_X1 m_cd_X1_partOfAtom) rfl rfl rfl (by decide +kernel) ⟨Nat.le_of_ble_eq_true rfl, Nat.le_of_ble_eq_true rfl⟩) hN hK hP hD hS hA [18, 19, 20, 21, 22, 23, 24, 25, 26] [none, none, none, none, none, none, none, none, none, none, none, none, none, none, none, none, none, none, some 0, some 1, some 2, some 3, some 4, some 5, some 6, some 7, some 8] rfl rfl rfl rfl rfl rfl 18 rfl rfl rfl hl.1 rfl (Nat.le_of_ble_eq_true rfl) dX2_workOut_121 ⟨Nat.zero_le _, Nat.zero_le _⟩ (fun H locs hP hD hS => ?_)
        refine lv_iload_n hx hb dX2_workOut_124 rfl (lv_at hl 2 rfl) ?_
        obtain ⟨q125, e125, h⟩ := g_b h
        refine callVls (cc := cX2_workOut) (w1 := zzK ad cy (ad 11) (ad 18) x_iK x_lK aK iB lB aB iC aC) (As := [.int q121, .int v3]) (rest := []) ⟨hx, hb, hml, hown, hts⟩ (c_K_truthOf l dC dI cy ad H.size q121 v3 x_iK x_lK aK iB lB aB iC aC q125 e125) (cwV 2 hts (goodV m_ml_X2_81 m_im_X2_truthOf m_se_X2_truthOf m_in_X2 m_cd_X2_truthOf) rfl rfl rfl (by decide +kernel) ⟨Nat.le_of_ble_eq_true rfl, Nat.le_of_ble_eq_true rfl⟩) hN hK hP hD hS hA rfl 0 rfl rfl rfl hl.1 rfl (Nat.le_of_ble_eq_true rfl) dX2_workOut_125 ⟨Nat.zero_le _, Nat.zero_le _⟩ (fun H locs hP hD hS => ?_)
        refine lv_lstore (lv' := [(4, .long q125), (0, .ref (ad 0)), (2, .int v2), (3, .int v3)]) hx hb dX2_workOut_128 hl (by decide) rfl (fun ls hl => ?_)
        refine lv_aload_n hx hb dX2_workOut_130 rfl (lv_at hl 1 rfl) ?_
        refine va_get (D := (dC, dI)) (ci := 2) (v := .ref (ad 2)) (C := RX2) (T := TX2) (N := 15) hx hb hts ki2 hown hK hP 0 rfl rfl 4 (by decide) kf15 (fun _ h9 => h9) rfl dX2_workOut_131 ?_
        refine lv_iload_n hx hb dX2_workOut_134 rfl (lv_at hl 2 rfl) ?_
        refine lv_bipush (v := 8) hx hb dX2_workOut_135 (by decide) ?_
        refine lv_imul hx hb dX2_workOut_137 ?_
        refine lv_iload_n hx hb dX2_workOut_138 rfl (lv_at hl 3 rfl) ?_
        refine lv_iadd hx hb dX2_workOut_139 ?_
        refine lv_aload_n hx hb dX2_workOut_140 rfl (lv_at hl 1 rfl) ?_
        refine va_get (D := (dC, dI)) (ci := 2) (v := .ref (ad 18)) (C := RX2) (T := TX2) (N := 15) hx hb hts ki2 hown hK hP 0 rfl rfl 1 (by decide) kf54 (fun _ h9 => h9) rfl dX2_workOut_141 ?_
        refine lv_iload_n hx hb dX2_workOut_144 rfl (lv_at hl 2 rfl) ?_
        obtain ⟨q145, e145, h⟩ := g_b h
        refine callVi (cc := cX2_workOut) (ws' := zzK ad cy (ad 11) (ad 18) x_iK x_lK aK iB lB aB iC aC) (As := [.int v2]) (rest := [.int (((v2 * (8 : Int32)) + v3)), .ref (ad 2)]) ⟨hx, hb, hml, hown, hts⟩ (c_C_isTurned l dC dI cy (fun i => ad (i + 18)) H.size v2 iC aC q145 e145) (cwV 1 hts (goodV m_ml_X2_84 m_im_X1_isTurned m_se_X1_isTurned m_in_X1 m_cd_X1_isTurned) rfl rfl rfl (by decide +kernel) ⟨Nat.le_of_ble_eq_true rfl, Nat.le_of_ble_eq_true rfl⟩) hN hK hP hD hS hA [18, 19, 20, 21, 22, 23, 24, 25, 26] [none, none, none, none, none, none, none, none, none, none, none, none, none, none, none, none, none, none, some 0, some 1, some 2, some 3, some 4, some 5, some 6, some 7, some 8] rfl rfl rfl rfl rfl rfl 18 rfl rfl rfl hl.1 rfl (Nat.le_of_ble_eq_true rfl) dX2_workOut_145 ⟨Nat.zero_le _, Nat.zero_le _⟩ (fun H locs hP hD hS => ?_)
        refine lv_if_eq (tgt := 160) hx hb dX2_workOut_148 (by decide) (fun cz => ?_) (fun cz => ?_)
        · have h := g_t h cz
          refine lv_lload hx hb dX2_workOut_160 (lv_at hl 0 rfl) ?_
          exact B162 v2 v3 (((v2 * (8 : Int32)) + v3)) q125 x_iK x_lK (f_K_workOut_109 N iK lK aK iB lB aB iC aC k90 v2 x_iK n) (ih v2 x_iK k90 hk90) H locs ls h hP hD hS (lv_sub hl [1, 2, 3] rfl)
        · have h := g_f h cz
          refine lv_lload hx hb dX2_workOut_151 (lv_at hl 0 rfl) ?_
          refine lv_ldc2 (v := (-1)) hx hb hown kc88 dX2_workOut_153 ?_
          refine lv_lxor hx hb dX2_workOut_156 ?_
          refine lv_goto (tgt := 162) hx hb dX2_workOut_157 (by decide) ?_
          exact B162 v2 v3 (((v2 * (8 : Int32)) + v3)) ((q125 ^^^ (-1 : Int64))) x_iK x_lK (f_K_workOut_109 N iK lK aK iB lB aB iC aC k90 v2 x_iK n) (ih v2 x_iK k90 hk90) H locs ls h hP hD hS (lv_sub hl [1, 2, 3] rfl)
  have B251 : ∀ (v2 : Int32) (s1 : Int32) (s2 : Int32) (x_iK : Nat → Int32) (x_lK : Nat → Nat → Int64) (x_aK : Nat → Nat → Int32) (k215 : Int32 → (Nat → Nat → Int32) → Option ((Nat → Int32) × (Nat → Nat → Int64) × (Nat → Nat → Int32))) (hk215 : ∀ (v2' : Int32) (x_aK' : Nat → Nat → Int32) (H : Heap) (locs : List Loc) (ls : Array Slot), k215 v2' x_aK' = some q → va_P (dC, dI) vwCl (zzK ad cy (ad 11) (ad 18) x_iK x_lK x_aK' iB lB aB iC aC) H → va_D A (zzK ad cy (ad 11) (ad 18) x_iK x_lK x_aK' iB lB aB iC aC) → va_S A s.heap H locs → lv_has ls 6 [(0, .ref (ad 0)), (2, .int v2')] → W p l e ({ frames := 6, cells := 0, slots := 0, locals := 148 } : Room) s m args below meth c H locs 0 0 QQ (F0 m 215 ls [])) (H : Heap) (locs : List Loc) (ls : Array Slot), f_K_workOut_251 N iK lK aK iB lB aB iC aC k215 v2 s1 s2 x_iK x_lK x_aK = some q → va_P (dC, dI) vwCl (zzK ad cy (ad 11) (ad 18) x_iK x_lK x_aK iB lB aB iC aC) H → va_D A (zzK ad cy (ad 11) (ad 18) x_iK x_lK x_aK iB lB aB iC aC) → va_S A s.heap H locs → lv_has ls 6 [(0, .ref (ad 0)), (2, .int v2)] → W p l e ({ frames := 6, cells := 0, slots := 0, locals := 148 } : Room) s m args below meth c H locs 0 0 QQ (F0 m 251 ls [.int s2, .int s1, .ref (ad 10)]) := by
    intro v2 s1 s2 x_iK x_lK x_aK k215 hk215 H locs ls h hP hD hS hl
    unfold f_K_workOut_251 at h
    refine lv_i2s (v := (s2).toInt16.toInt32) hx hb dX2_workOut_251 rfl ?_
    obtain ⟨g_31, h⟩ := g_n h
    refine va_sast (f := (x_aK 13)) hx hb hK hP hD hS 10 3 rfl rfl g_31 dX2_workOut_252 (fun H locs hP hD hS => ?_)
    have hP : va_P (dC, dI) vwCl (zzK ad cy (ad 11) (ad 18) x_iK x_lK (us x_aK [(13, (upd ((x_aK 13)) s1.toNatClampNeg (vp_nar .short (s2).toInt16.toInt32)))]) iB lB aB iC aC) H := Eq.mp (congrArg (fun w => va_P (dC, dI) vwCl w H) (sfK_aK13 ad cy (ad 11) (ad 18) x_iK x_lK x_aK iB lB aB iC aC ((upd ((x_aK 13)) s1.toNatClampNeg (vp_nar .short (s2).toInt16.toInt32))))) hP
    have hD : va_D A (zzK ad cy (ad 11) (ad 18) x_iK x_lK (us x_aK [(13, (upd ((x_aK 13)) s1.toNatClampNeg (vp_nar .short (s2).toInt16.toInt32)))]) iB lB aB iC aC) := Eq.mp (congrArg (fun w => va_D A w) (sfK_aK13 ad cy (ad 11) (ad 18) x_iK x_lK x_aK iB lB aB iC aC ((upd ((x_aK 13)) s1.toNatClampNeg (vp_nar .short (s2).toInt16.toInt32))))) hD
    refine lv_iinc (v := (v2 + (1 : Int32))) (lv' := [(2, .int ((v2 + (1 : Int32)))), (0, .ref (ad 0))]) hx hb dX2_workOut_253 hl (k := 1) rfl rfl (by decide) rfl (fun ls hl => ?_)
    refine lv_goto (tgt := 215) hx hb dX2_workOut_256 (by decide) ?_
    exact hk215 ((v2 + (1 : Int32))) ((us x_aK [(13, (upd ((x_aK 13)) s1.toNatClampNeg (vp_nar .short (s2).toInt16.toInt32)))])) H locs ls h hP hD hS (lv_sub hl [1, 0] rfl)
  have B259 : ∀ (x_iK : Nat → Int32) (x_lK : Nat → Nat → Int64) (x_aK : Nat → Nat → Int32) (H : Heap) (locs : List Loc) (ls : Array Slot), f_K_workOut_259 N iK lK aK iB lB aB iC aC x_iK x_lK x_aK = some q → va_P (dC, dI) vwCl (zzK ad cy (ad 11) (ad 18) x_iK x_lK x_aK iB lB aB iC aC) H → va_D A (zzK ad cy (ad 11) (ad 18) x_iK x_lK x_aK iB lB aB iC aC) → va_S A s.heap H locs → lv_has ls 6 [(0, .ref (ad 0))] → W p l e ({ frames := 6, cells := 0, slots := 0, locals := 148 } : Room) s m args below meth c H locs 0 0 QQ (F0 m 259 ls []) := by
    intro x_iK x_lK x_aK H locs ls h hP hD hS hl
    unfold f_K_workOut_259 at h
    refine lv_aload_n hx hb dX2_workOut_259 rfl (lv_at hl 0 rfl) ?_
    refine lv_aload_n hx hb dX2_workOut_260 rfl (lv_at hl 0 rfl) ?_
    refine lv_aload_n hx hb dX2_workOut_261 rfl (lv_at hl 0 rfl) ?_
    refine va_get (D := (dC, dI)) (ci := 2) (v := .ref (ad 6)) (C := RX2) (T := TX2) (N := 15) hx hb hts ki2 hown hK hP 0 rfl rfl 9 (by decide) kf28 (fun _ h9 => h9) rfl dX2_workOut_262 ?_
    refine lv_iconst (v := 1) hx hb dX2_workOut_265 (by decide) ?_
    obtain ⟨q266, e266, h⟩ := g_b h
    refine callVis (cc := cX2_workOut) (w1 := zzK ad cy (ad 11) (ad 18) x_iK (us x_lK [(9, q266.2.1), (11, q266.2.2.1), (12, q266.2.2.2.1)]) (us x_aK [(13, q266.2.2.2.2)]) iB lB aB iC aC) (As := [.ref (ad 6), .int ((1 : Int32))]) (rest := [.ref (ad 0)]) ⟨hx, hb, hml, hown, hts⟩ (c_K_settle_standing l dC dI cy ad H.size N ((1 : Int32)) x_iK x_lK x_aK iB lB aB iC aC q266 e266) (cwV 2 hts (goodV m_ml_X2_110 m_im_X2_settle m_se_X2_settle m_in_X2 m_cd_X2_settle) rfl rfl rfl (by decide +kernel) ⟨Nat.le_of_ble_eq_true rfl, Nat.le_of_ble_eq_true rfl⟩) hN hK hP hD hS hA rfl 0 rfl rfl rfl hl.1 rfl (Nat.le_of_ble_eq_true rfl) dX2_workOut_266 ⟨Nat.zero_le _, Nat.zero_le _⟩ (fun H locs hP hD hS => ?_)
    refine va_put (D := (dC, dI)) (ci := 2) (v := .int q266.1) (ty := .int) (C := RX2) (T := TX2) (N := 15) hx hb hts ki2 tyX2 tyX2_ok nmX2 hown hK hP hD hS 0 rfl rfl 14 (by decide) kf114 (fun _ h9 => h9) rfl (by decide +kernel) rfl rfl (Nat.le_of_ble_eq_true rfl) dX2_workOut_269 (fun H locs hP hD hS => ?_)
    have hP : va_P (dC, dI) vwCl (zzK ad cy (ad 11) (ad 18) (us x_iK [(14, q266.1)]) (us x_lK [(9, q266.2.1), (11, q266.2.2.1), (12, q266.2.2.2.1)]) (us x_aK [(13, q266.2.2.2.2)]) iB lB aB iC aC) H := Eq.mp (congrArg (fun w => va_P (dC, dI) vwCl w H) (sfK_iK14 ad cy (ad 11) (ad 18) x_iK (us x_lK [(9, q266.2.1), (11, q266.2.2.1), (12, q266.2.2.2.1)]) (us x_aK [(13, q266.2.2.2.2)]) iB lB aB iC aC q266.1)) hP
    have hD : va_D A (zzK ad cy (ad 11) (ad 18) (us x_iK [(14, q266.1)]) (us x_lK [(9, q266.2.1), (11, q266.2.2.1), (12, q266.2.2.2.1)]) (us x_aK [(13, q266.2.2.2.2)]) iB lB aB iC aC) := Eq.mp (congrArg (fun w => va_D A w) (sfK_iK14 ad cy (ad 11) (ad 18) x_iK (us x_lK [(9, q266.2.1), (11, q266.2.2.1), (12, q266.2.2.2.1)]) (us x_aK [(13, q266.2.2.2.2)]) iB lB aB iC aC q266.1)) hD
    have h' := Option.some.inj h
    rw [← hQQ]
    exact W.vret hx hb hr (fun t ht hW => ⟨⟨(), rfl, trivial, by rw [← hWQ, ← h', ht]; exact hP, va_K.moved hW.alike hK⟩, hS.F ht⟩) hS.2.2 dX2_workOut_272
  have B215 : ∀ (n : Nat) (x_iK : Nat → Int32) (x_lK : Nat → Nat → Int64) (v2 : Int32) (x_aK : Nat → Nat → Int32) (H : Heap) (locs : List Loc) (ls : Array Slot), f_K_workOut_215 N iK lK aK iB lB aB iC aC x_iK x_lK n v2 x_aK = some q → va_P (dC, dI) vwCl (zzK ad cy (ad 11) (ad 18) x_iK x_lK x_aK iB lB aB iC aC) H → va_D A (zzK ad cy (ad 11) (ad 18) x_iK x_lK x_aK iB lB aB iC aC) → va_S A s.heap H locs → lv_has ls 6 [(0, .ref (ad 0)), (2, .int v2)] → W p l e ({ frames := 6, cells := 0, slots := 0, locals := 148 } : Room) s m args below meth c H locs 0 0 QQ (F0 m 215 ls []) := by
    intro n
    induction n with
    | zero =>
      intro x_iK x_lK v2 x_aK H locs ls h hP hD hS hl
      rw [f_K_workOut_215] at h
      cases h
    | succ n ih =>
      intro x_iK x_lK v2 x_aK H locs ls h hP hD hS hl
      rw [f_K_workOut_215] at h
      refine lv_iload_n hx hb dX2_workOut_215 rfl (lv_at hl 1 rfl) ?_
      refine lv_aload_n hx hb dX2_workOut_216 rfl (lv_at hl 0 rfl) ?_
      refine va_get (D := (dC, dI)) (ci := 2) (v := .int ((x_iK 2))) (C := RX2) (T := TX2) (N := 15) hx hb hts ki2 hown hK hP 0 rfl rfl 2 (by decide) kf67 (fun _ h9 => h9) rfl dX2_workOut_217 ?_
      refine lv_icmp_ge (tgt := 259) hx hb dX2_workOut_220 (by decide) (fun cz => ?_) (fun cz => ?_)
      · have h := g_t h cz
        exact B259 x_iK x_lK x_aK H locs ls h hP hD hS (lv_sub hl [0] rfl)
      · have h := g_f h cz
        refine lv_iload_n hx hb dX2_workOut_223 rfl (lv_at hl 1 rfl) ?_
        refine lv_sipush (v := 512) hx hb dX2_workOut_224 (by decide) ?_
        refine lv_icmp_ge (tgt := 259) hx hb dX2_workOut_227 (by decide) (fun cz => ?_) (fun cz => ?_)
        · have h := g_t h cz
          exact B259 x_iK x_lK x_aK H locs ls h hP hD hS (lv_sub hl [0] rfl)
        · have h := g_f h cz
          refine lv_aload_n hx hb dX2_workOut_230 rfl (lv_at hl 0 rfl) ?_
          refine va_get (D := (dC, dI)) (ci := 2) (v := .ref (ad 10)) (C := RX2) (T := TX2) (N := 15) hx hb hts ki2 hown hK hP 0 rfl rfl 13 (by decide) kf40 (fun _ h9 => h9) rfl dX2_workOut_231 ?_
          refine lv_iload_n hx hb dX2_workOut_234 rfl (lv_at hl 1 rfl) ?_
          refine lv_aload_n hx hb dX2_workOut_235 rfl (lv_at hl 0 rfl) ?_
          refine va_get (D := (dC, dI)) (ci := 2) (v := .ref (ad 5)) (C := RX2) (T := TX2) (N := 15) hx hb hts ki2 hown hK hP 0 rfl rfl 8 (by decide) kf25 (fun _ h9 => h9) rfl dX2_workOut_236 ?_
          refine lv_iload_n hx hb dX2_workOut_239 rfl (lv_at hl 1 rfl) ?_
          obtain ⟨q240, e240, h⟩ := g_b h
          refine callSi (cc := cX2_workOut) (ws' := zzK ad cy (ad 11) (ad 18) x_iK x_lK x_aK iB lB aB iC aC) (As := [.ref (ad 5), .int v2]) (rest := [.int v2, .ref (ad 10)]) ⟨hx, hb, hml, hown, hts⟩ (c_K_has l dC dI cy (fun i => ad (i + 5)) H.size 8 v2 ((x_lK 8)) q240 e240) (va_cwS 2 hts (goodS m_ml_X2_106 m_st_X2_has m_in_X2 m_cd_X2_has) rfl rfl rfl (by decide +kernel) ⟨Nat.le_of_ble_eq_true rfl, Nat.le_of_ble_eq_true rfl⟩) hN hK hP hD hS hA [5] [none, none, none, none, none, some 0, none, none, none, none, none, none, none, none, none, none, none, none, none, none, none, none, none, none, none, none, none] rfl rfl rfl rfl rfl rfl rfl hl.1 rfl (Nat.le_of_ble_eq_true rfl) dX2_workOut_240 ⟨Nat.zero_le _, Nat.zero_le _⟩ (fun H locs hP hD hS => ?_)
          refine lv_if_eq (tgt := 250) hx hb dX2_workOut_243 (by decide) (fun cz => ?_) (fun cz => ?_)
          · have h := g_t h cz
            refine lv_iconst (v := 0) hx hb dX2_workOut_250 (by decide) ?_
            exact B251 v2 v2 ((0 : Int32)) x_iK x_lK x_aK (f_K_workOut_215 N iK lK aK iB lB aB iC aC x_iK x_lK n) (ih x_iK x_lK) H locs ls h hP hD hS (lv_sub hl [0, 1] rfl)
          · have h := g_f h cz
            refine lv_iconst (v := (-1)) hx hb dX2_workOut_246 (by decide) ?_
            refine lv_goto (tgt := 251) hx hb dX2_workOut_247 (by decide) ?_
            exact B251 v2 v2 ((-1 : Int32)) x_iK x_lK x_aK (f_K_workOut_215 N iK lK aK iB lB aB iC aC x_iK x_lK n) (ih x_iK x_lK) H locs ls h hP hD hS (lv_sub hl [0, 1] rfl)
  have B175 : ∀ (x_iK : Nat → Int32) (x_lK : Nat → Nat → Int64) (H : Heap) (locs : List Loc) (ls : Array Slot), f_K_workOut_175 N iK lK aK iB lB aB iC aC x_iK x_lK = some q → va_P (dC, dI) vwCl (zzK ad cy (ad 11) (ad 18) x_iK x_lK aK iB lB aB iC aC) H → va_D A (zzK ad cy (ad 11) (ad 18) x_iK x_lK aK iB lB aB iC aC) → va_S A s.heap H locs → lv_has ls 6 [(0, .ref (ad 0))] → W p l e ({ frames := 6, cells := 0, slots := 0, locals := 148 } : Room) s m args below meth c H locs 0 0 QQ (F0 m 175 ls []) := by
    intro x_iK x_lK H locs ls h hP hD hS hl
    unfold f_K_workOut_175 at h
    refine lv_aload_n hx hb dX2_workOut_175 rfl (lv_at hl 0 rfl) ?_
    obtain ⟨q176, e176, h⟩ := g_b h
    refine callVvs (cc := cX2_workOut) (w1 := zzK ad cy (ad 11) (ad 18) (us x_iK [(7, q176.1)]) x_lK (us aK [(5, q176.2.1), (6, q176.2.2)]) iB lB aB iC aC) (As := []) (rest := []) ⟨hx, hb, hml, hown, hts⟩ (c_K_gatherAtoms l dC dI cy ad H.size N x_iK x_lK aK iB lB aB iC aC q176 e176) (cwV 0 hts (goodV m_ml_X2_90 m_im_X2_gatherAtoms m_se_X2_gatherAtoms m_in_X2 m_cd_X2_gatherAtoms) rfl rfl rfl (by decide +kernel) ⟨Nat.le_of_ble_eq_true rfl, Nat.le_of_ble_eq_true rfl⟩) hN hK hP hD hS hA rfl 0 rfl rfl rfl hl.1 rfl (Nat.le_of_ble_eq_true rfl) dX2_workOut_176 ⟨Nat.zero_le _, Nat.zero_le _⟩ (fun H locs hP hD hS => ?_)
    refine lv_aload_n hx hb dX2_workOut_179 rfl (lv_at hl 0 rfl) ?_
    refine lv_iconst (v := 1) hx hb dX2_workOut_180 (by decide) ?_
    refine lv_aload_n hx hb dX2_workOut_181 rfl (lv_at hl 0 rfl) ?_
    refine va_get (D := (dC, dI)) (ci := 2) (v := .ref (ad 11)) (C := RX2) (T := TX2) (N := 15) hx hb hts ki2 hown hK hP 0 rfl rfl 0 (by decide) kf44 (fun _ h9 => h9) rfl dX2_workOut_182 ?_
    refine va_get (D := (dC, dI)) (ci := 0) (v := .int ((iB 9))) (C := RX0) (T := TX0) (N := 15) hx hb hts ki0 hown hK hP 11 rfl rfl 9 (by decide) kf93 (fun _ h9 => h9) rfl dX2_workOut_185 ?_
    refine lv_ishl hx hb dX2_workOut_188 ?_
    refine lv_iconst (v := 1) hx hb dX2_workOut_189 (by decide) ?_
    refine lv_isub hx hb dX2_workOut_190 ?_
    refine lv_aload_n hx hb dX2_workOut_191 rfl (lv_at hl 0 rfl) ?_
    refine va_get (D := (dC, dI)) (ci := 2) (v := .ref (ad 5)) (C := RX2) (T := TX2) (N := 15) hx hb hts ki2 hown hK hP 0 rfl rfl 8 (by decide) kf25 (fun _ h9 => h9) rfl dX2_workOut_192 ?_
    obtain ⟨q195, e195, h⟩ := g_b h
    refine callVvs (cc := cX2_workOut) (w1 := zzK ad cy (ad 11) (ad 18) (us x_iK [(7, q176.1)]) (us x_lK [(8, q195)]) (us aK [(5, q176.2.1), (6, q176.2.2)]) iB lB aB iC aC) (As := [.int ((((1 : Int32) <<< ((iB 9) &&& 31)) - (1 : Int32))), .ref (ad 5)]) (rest := []) ⟨hx, hb, hml, hown, hts⟩ (c_K_takeFair_fair l dC dI cy ad H.size N ((((1 : Int32) <<< ((iB 9) &&& 31)) - (1 : Int32))) ((us x_iK [(7, q176.1)])) x_lK ((us aK [(5, q176.2.1), (6, q176.2.2)])) iB lB aB iC aC q195 e195) (cwV 2 hts (goodV m_ml_X2_96 m_im_X2_takeFair m_se_X2_takeFair m_in_X2 m_cd_X2_takeFair) rfl rfl rfl (by decide +kernel) ⟨Nat.le_of_ble_eq_true rfl, Nat.le_of_ble_eq_true rfl⟩) hN hK hP hD hS hA rfl 0 rfl rfl rfl hl.1 rfl (Nat.le_of_ble_eq_true rfl) dX2_workOut_195 ⟨Nat.zero_le _, Nat.zero_le _⟩ (fun H locs hP hD hS => ?_)
    refine lv_aload_n hx hb dX2_workOut_198 rfl (lv_at hl 0 rfl) ?_
    refine va_get (D := (dC, dI)) (ci := 2) (v := .ref (ad 5)) (C := RX2) (T := TX2) (N := 15) hx hb hts ki2 hown hK hP 0 rfl rfl 8 (by decide) kf25 (fun _ h9 => h9) rfl dX2_workOut_199 ?_
    refine lv_iconst (v := 0) hx hb dX2_workOut_202 (by decide) ?_
    refine lv_aload_n hx hb dX2_workOut_203 rfl (lv_at hl 0 rfl) ?_
    refine va_get (D := (dC, dI)) (ci := 2) (v := .ref (ad 6)) (C := RX2) (T := TX2) (N := 15) hx hb hts ki2 hown hK hP 0 rfl rfl 9 (by decide) kf28 (fun _ h9 => h9) rfl dX2_workOut_204 ?_
    refine lv_iconst (v := 0) hx hb dX2_workOut_207 (by decide) ?_
    refine lv_bipush (v := 8) hx hb dX2_workOut_208 (by decide) ?_
    refine va_copyl (f := q195) (g := (x_lK 9)) hx hb (by rw [hml]; exact hl.1.symm) hown ka1 ka2 ka3 ka4 hK hP hD hS 5 6 2 2 rfl rfl rfl rfl rfl (by decide) (by decide) (by decide) (by decide) (by decide) (fun _ _ => rfl) (Nat.le_of_ble_eq_true rfl) (Nat.le_of_ble_eq_true rfl) dX2_workOut_210 (fun H locs hP hD hS => ?_)
    have hP : va_P (dC, dI) vwCl (zzK ad cy (ad 11) (ad 18) (us x_iK [(7, q176.1)]) (us x_lK [(8, q195), (9, (va_cpy q195 ((x_lK 9)) ((0 : Int32)).toNatClampNeg ((0 : Int32)).toNatClampNeg ((8 : Int32)).toNatClampNeg))]) (us aK [(5, q176.2.1), (6, q176.2.2)]) iB lB aB iC aC) H := Eq.mp (congrArg (fun w => va_P (dC, dI) vwCl w H) (stK_lK9 ad cy (ad 11) (ad 18) (us x_iK [(7, q176.1)]) x_lK (us aK [(5, q176.2.1), (6, q176.2.2)]) iB lB aB iC aC [(8, q195)] ((va_cpy q195 ((x_lK 9)) ((0 : Int32)).toNatClampNeg ((0 : Int32)).toNatClampNeg ((8 : Int32)).toNatClampNeg)))) hP
    have hD : va_D A (zzK ad cy (ad 11) (ad 18) (us x_iK [(7, q176.1)]) (us x_lK [(8, q195), (9, (va_cpy q195 ((x_lK 9)) ((0 : Int32)).toNatClampNeg ((0 : Int32)).toNatClampNeg ((8 : Int32)).toNatClampNeg))]) (us aK [(5, q176.2.1), (6, q176.2.2)]) iB lB aB iC aC) := Eq.mp (congrArg (fun w => va_D A w) (stK_lK9 ad cy (ad 11) (ad 18) (us x_iK [(7, q176.1)]) x_lK (us aK [(5, q176.2.1), (6, q176.2.2)]) iB lB aB iC aC [(8, q195)] ((va_cpy q195 ((x_lK 9)) ((0 : Int32)).toNatClampNeg ((0 : Int32)).toNatClampNeg ((8 : Int32)).toNatClampNeg)))) hD
    refine lv_iconst (v := 0) hx hb dX2_workOut_213 (by decide) ?_
    refine lv_istore_n (lv' := [(2, .int ((0 : Int32))), (0, .ref (ad 0))]) hx hb dX2_workOut_214 rfl hl (by decide) rfl (fun ls hl => ?_)
    exact B215 N ((us x_iK [(7, q176.1)])) ((us x_lK [(8, q195), (9, (va_cpy q195 ((x_lK 9)) ((0 : Int32)).toNatClampNeg ((0 : Int32)).toNatClampNeg ((8 : Int32)).toNatClampNeg))])) ((0 : Int32)) ((us aK [(5, q176.2.1), (6, q176.2.2)])) H locs ls h hP hD hS (lv_sub hl [1, 0] rfl)
  have B90 : ∀ (n : Nat) (x_iK : Nat → Int32) (v2 : Int32) (x_lK : Nat → Nat → Int64) (H : Heap) (locs : List Loc) (ls : Array Slot), f_K_workOut_90 N iK lK aK iB lB aB iC aC x_iK n v2 x_lK = some q → va_P (dC, dI) vwCl (zzK ad cy (ad 11) (ad 18) x_iK x_lK aK iB lB aB iC aC) H → va_D A (zzK ad cy (ad 11) (ad 18) x_iK x_lK aK iB lB aB iC aC) → va_S A s.heap H locs → lv_has ls 6 [(0, .ref (ad 0)), (2, .int v2)] → W p l e ({ frames := 6, cells := 0, slots := 0, locals := 148 } : Room) s m args below meth c H locs 0 0 QQ (F0 m 90 ls []) := by
    intro n
    induction n with
    | zero =>
      intro x_iK v2 x_lK H locs ls h hP hD hS hl
      rw [f_K_workOut_90] at h
      cases h
    | succ n ih =>
      intro x_iK v2 x_lK H locs ls h hP hD hS hl
      rw [f_K_workOut_90] at h
      refine lv_iload_n hx hb dX2_workOut_90 rfl (lv_at hl 1 rfl) ?_
      refine lv_aload_n hx hb dX2_workOut_91 rfl (lv_at hl 0 rfl) ?_
      refine va_get (D := (dC, dI)) (ci := 2) (v := .ref (ad 18)) (C := RX2) (T := TX2) (N := 15) hx hb hts ki2 hown hK hP 0 rfl rfl 1 (by decide) kf54 (fun _ h9 => h9) rfl dX2_workOut_92 ?_
      refine va_get (D := (dC, dI)) (ci := 1) (v := .int ((iC 9))) (C := RX1) (T := TX1) (N := 10) hx hb hts ki1 hown hK hP 18 rfl rfl 9 (by decide) kf55 (fun _ h9 => h9) rfl dX2_workOut_95 ?_
      refine lv_icmp_ge (tgt := 175) hx hb dX2_workOut_98 (by decide) (fun cz => ?_) (fun cz => ?_)
      · have h := g_t h cz
        exact B175 x_iK x_lK H locs ls h hP hD hS (lv_sub hl [0] rfl)
      · have h := g_f h cz
        refine lv_iload_n hx hb dX2_workOut_101 rfl (lv_at hl 1 rfl) ?_
        refine lv_bipush (v := 9) hx hb dX2_workOut_102 (by decide) ?_
        refine lv_icmp_ge (tgt := 175) hx hb dX2_workOut_104 (by decide) (fun cz => ?_) (fun cz => ?_)
        · have h := g_t h cz
          exact B175 x_iK x_lK H locs ls h hP hD hS (lv_sub hl [0] rfl)
        · have h := g_f h cz
          refine lv_iconst (v := 0) hx hb dX2_workOut_107 (by decide) ?_
          refine lv_istore_n (lv' := [(3, .int ((0 : Int32))), (0, .ref (ad 0)), (2, .int v2)]) hx hb dX2_workOut_108 rfl hl (by decide) rfl (fun ls hl => ?_)
          exact B109 N v2 x_iK (f_K_workOut_90 N iK lK aK iB lB aB iC aC x_iK n) (ih x_iK) ((0 : Int32)) x_lK H locs ls h hP hD hS (lv_sub hl [1, 2, 0] rfl)
  have B33 : ∀ (n : Nat) (x_iK : Nat → Int32) (v2 : Int32) (x_lK : Nat → Nat → Int64) (H : Heap) (locs : List Loc) (ls : Array Slot), f_K_workOut_33 N iK lK aK iB lB aB iC aC x_iK n v2 x_lK = some q → va_P (dC, dI) vwCl (zzK ad cy (ad 11) (ad 18) x_iK x_lK aK iB lB aB iC aC) H → va_D A (zzK ad cy (ad 11) (ad 18) x_iK x_lK aK iB lB aB iC aC) → va_S A s.heap H locs → lv_has ls 6 [(0, .ref (ad 0)), (2, .int v2)] → W p l e ({ frames := 6, cells := 0, slots := 0, locals := 148 } : Room) s m args below meth c H locs 0 0 QQ (F0 m 33 ls []) := by
    intro n
    induction n with
    | zero =>
      intro x_iK v2 x_lK H locs ls h hP hD hS hl
      rw [f_K_workOut_33] at h
      cases h
    | succ n ih =>
      intro x_iK v2 x_lK H locs ls h hP hD hS hl
      rw [f_K_workOut_33] at h
      refine lv_iload_n hx hb dX2_workOut_33 rfl (lv_at hl 1 rfl) ?_
      refine lv_aload_n hx hb dX2_workOut_34 rfl (lv_at hl 0 rfl) ?_
      refine va_get (D := (dC, dI)) (ci := 2) (v := .ref (ad 18)) (C := RX2) (T := TX2) (N := 15) hx hb hts ki2 hown hK hP 0 rfl rfl 1 (by decide) kf54 (fun _ h9 => h9) rfl dX2_workOut_35 ?_
      refine va_get (D := (dC, dI)) (ci := 1) (v := .int ((iC 4))) (C := RX1) (T := TX1) (N := 10) hx hb hts ki1 hown hK hP 18 rfl rfl 4 (by decide) kf70 (fun _ h9 => h9) rfl dX2_workOut_38 ?_
      refine lv_icmp_ge (tgt := 88) hx hb dX2_workOut_41 (by decide) (fun cz => ?_) (fun cz => ?_)
      · have h := g_t h cz
        refine lv_iconst (v := 0) hx hb dX2_workOut_88 (by decide) ?_
        refine lv_istore_n (lv' := [(2, .int ((0 : Int32))), (0, .ref (ad 0))]) hx hb dX2_workOut_89 rfl hl (by decide) rfl (fun ls hl => ?_)
        exact B90 N x_iK ((0 : Int32)) x_lK H locs ls h hP hD hS (lv_sub hl [1, 0] rfl)
      · have h := g_f h cz
        refine lv_iload_n hx hb dX2_workOut_44 rfl (lv_at hl 1 rfl) ?_
        refine lv_sipush (v := 200) hx hb dX2_workOut_45 (by decide) ?_
        refine lv_icmp_ge (tgt := 88) hx hb dX2_workOut_48 (by decide) (fun cz => ?_) (fun cz => ?_)
        · have h := g_t h cz
          refine lv_iconst (v := 0) hx hb dX2_workOut_88 (by decide) ?_
          refine lv_istore_n (lv' := [(2, .int ((0 : Int32))), (0, .ref (ad 0))]) hx hb dX2_workOut_89 rfl hl (by decide) rfl (fun ls hl => ?_)
          exact B90 N x_iK ((0 : Int32)) x_lK H locs ls h hP hD hS (lv_sub hl [1, 0] rfl)
        · have h := g_f h cz
          refine lv_iconst (v := 0) hx hb dX2_workOut_51 (by decide) ?_
          refine lv_istore_n (lv' := [(3, .int ((0 : Int32))), (0, .ref (ad 0)), (2, .int v2)]) hx hb dX2_workOut_52 rfl hl (by decide) rfl (fun ls hl => ?_)
          exact B53 N v2 x_iK (f_K_workOut_33 N iK lK aK iB lB aB iC aC x_iK n) (ih x_iK) ((0 : Int32)) x_lK H locs ls h hP hD hS (lv_sub hl [1, 2, 0] rfl)
  intro H locs hP hD hS
  unfold f_K_workOut at h
  refine lv_aload_n hx hb dX2_workOut_0 rfl (lv_at hl 0 rfl) ?_
  refine lv_aload_n hx hb dX2_workOut_1 rfl (lv_at hl 1 rfl) ?_
  refine va_put (D := (dC, dI)) (ci := 2) (v := .ref (ad 11)) (ty := (.object "TypeCourt$Book")) (C := RX2) (T := TX2) (N := 15) hx hb hts ki2 tyX2 tyX2_ok nmX2 hown hK hP hD hS 0 rfl rfl 0 (by decide) kf44 (fun _ h9 => h9) rfl (by decide +kernel) rfl rfl (Nat.le_of_ble_eq_true rfl) dX2_workOut_2 (fun H locs hP hD hS => ?_)
  have hP : va_P (dC, dI) vwCl (zzK ad cy (ad 11) kc iK lK aK iB lB aB iC aC) H := hP
  have hD : va_D A (zzK ad cy (ad 11) kc iK lK aK iB lB aB iC aC) := hD
  refine lv_aload_n hx hb dX2_workOut_5 rfl (lv_at hl 0 rfl) ?_
  refine lv_aload_n hx hb dX2_workOut_6 rfl (lv_at hl 1 rfl) ?_
  refine va_get (D := (dC, dI)) (ci := 0) (v := .ref (ad 18)) (C := RX0) (T := TX0) (N := 15) hx hb hts ki0 hown hK hP 11 rfl rfl 0 (by decide) kf48 (fun _ h9 => h9) rfl dX2_workOut_7 ?_
  refine va_put (D := (dC, dI)) (ci := 2) (v := .ref (ad 18)) (ty := (.object "TypeCourt$Concepts")) (C := RX2) (T := TX2) (N := 15) hx hb hts ki2 tyX2 tyX2_ok nmX2 hown hK hP hD hS 0 rfl rfl 1 (by decide) kf54 (fun _ h9 => h9) rfl (by decide +kernel) rfl rfl (Nat.le_of_ble_eq_true rfl) dX2_workOut_10 (fun H locs hP hD hS => ?_)
  have hP : va_P (dC, dI) vwCl (zzK ad cy (ad 11) (ad 18) iK lK aK iB lB aB iC aC) H := hP
  have hD : va_D A (zzK ad cy (ad 11) (ad 18) iK lK aK iB lB aB iC aC) := hD
  refine lv_aload_n hx hb dX2_workOut_13 rfl (lv_at hl 0 rfl) ?_
  refine lv_iconst (v := 1) hx hb dX2_workOut_14 (by decide) ?_
  refine lv_aload_n hx hb dX2_workOut_15 rfl (lv_at hl 0 rfl) ?_
  refine va_get (D := (dC, dI)) (ci := 2) (v := .ref (ad 18)) (C := RX2) (T := TX2) (N := 15) hx hb hts ki2 hown hK hP 0 rfl rfl 1 (by decide) kf54 (fun _ h9 => h9) rfl dX2_workOut_16 ?_
  refine va_get (D := (dC, dI)) (ci := 1) (v := .int ((iC 9))) (C := RX1) (T := TX1) (N := 10) hx hb hts ki1 hown hK hP 18 rfl rfl 9 (by decide) kf55 (fun _ h9 => h9) rfl dX2_workOut_19 ?_
  refine lv_bipush (v := 9) hx hb dX2_workOut_22 (by decide) ?_
  refine va_mmin hx hb (by rw [hml]; exact hl.1.symm) hown km1 km2 km3 km4 (Nat.le_of_ble_eq_true rfl) (Nat.le_of_ble_eq_true rfl) (Nat.zero_le _) (Nat.zero_le _) dX2_workOut_24 ?_
  refine lv_ishl hx hb dX2_workOut_27 ?_
  refine va_put (D := (dC, dI)) (ci := 2) (v := .int (((1 : Int32) <<< ((if (9 : Int32) < (iC 9) then (9 : Int32) else (iC 9)) &&& 31)))) (ty := .int) (C := RX2) (T := TX2) (N := 15) hx hb hts ki2 tyX2 tyX2_ok nmX2 hown hK hP hD hS 0 rfl rfl 2 (by decide) kf67 (fun _ h9 => h9) rfl (by decide +kernel) rfl rfl (Nat.le_of_ble_eq_true rfl) dX2_workOut_28 (fun H locs hP hD hS => ?_)
  have hP : va_P (dC, dI) vwCl (zzK ad cy (ad 11) (ad 18) (us iK [(2, ((1 : Int32) <<< ((if (9 : Int32) < (iC 9) then (9 : Int32) else (iC 9)) &&& 31)))]) lK aK iB lB aB iC aC) H := Eq.mp (congrArg (fun w => va_P (dC, dI) vwCl w H) (sfK_iK2 ad cy (ad 11) (ad 18) iK lK aK iB lB aB iC aC (((1 : Int32) <<< ((if (9 : Int32) < (iC 9) then (9 : Int32) else (iC 9)) &&& 31))))) hP
  have hD : va_D A (zzK ad cy (ad 11) (ad 18) (us iK [(2, ((1 : Int32) <<< ((if (9 : Int32) < (iC 9) then (9 : Int32) else (iC 9)) &&& 31)))]) lK aK iB lB aB iC aC) := Eq.mp (congrArg (fun w => va_D A w) (sfK_iK2 ad cy (ad 11) (ad 18) iK lK aK iB lB aB iC aC (((1 : Int32) <<< ((if (9 : Int32) < (iC 9) then (9 : Int32) else (iC 9)) &&& 31))))) hD
  refine lv_iconst (v := 0) hx hb dX2_workOut_31 (by decide) ?_
  refine lv_istore_n (lv' := [(2, .int ((0 : Int32))), (0, .ref (ad 0)), (1, .ref (ad 11))]) hx hb dX2_workOut_32 rfl hl (by decide) rfl (fun ls hl => ?_)
  exact B33 N ((us iK [(2, ((1 : Int32) <<< ((if (9 : Int32) < (iC 9) then (9 : Int32) else (iC 9)) &&& 31)))])) ((0 : Int32)) lK H locs ls h hP hD hS (lv_sub hl [1, 0] rfl)
