def stn : List String := ["WITHOUT", "LEAST", "MOST"]
/-- row kx of the settings' bounds lies at a -/
def SAat (G : Gx) (σ : State) (kx : Nat) (a : Nat) : Prop := va_T .int a 4 (fun j => .int (iv ((stl.getD kx []).getD j 0))) (Az G) σ σ.heap
def toldS : String := "who begs owes mint takes lucky dead thin faces or and not bears shows held false grains layers struck "
/-- the text of the words lies at a -/
def TDat (G : Gx) (σ : State) (a : Nat) : Prop := va_O "java/lang/String" a (Az G) σ σ.heap ∧ va_OF "java/lang/String" "coder" "B" (.int (iv 0)) a (Az G) σ σ.heap ∧ ∃ v : Nat, va_OF "java/lang/String" "value" "[B" (.ref v) a (Az G) σ σ.heap ∧ va_T .byte v 102 (fun j => .int (iv (told.getD j 0))) (Az G) σ σ.heap
def msgs : List (Nat × String) := [(103, "no such WHO"), (136, "nothing such of a WHO"), (141, "no such MINT"), (155, "nothing such of a MINT"), (186, "no such COIN"), (203, "nothing such of a COIN"), (254, "no such SALE"), (256, "nothing such of a SALE"), (316, "no such STROKE"), (318, "nothing such of a STROKE")]
/-- what lies ahead of the world and is never written -/
def Zs (G : Gx) (σ : State) : Prop := (∀ (kx : Nat) (nm : String), stn[kx]? = some nm → ∃ a, va_Z "FaceCoins$Law" nm "[I" (.ref a) (Az G) σ σ.heap ∧ SAat G σ kx a) ∧ (∃ a, vk_R "FaceCoins$Tape" 61 toldS a σ ∧ TDat G σ a) ∧ (va_AO "FaceCoins$Coinage" σ ∧ va_AO "FaceCoins$World" σ) ∧ (va_Z "java/lang/String" "COMPACT_STRINGS" "Z" (.int (iv 1)) (Az G) σ σ.heap ∧ va_Zq "jdk/internal/util/Preconditions" "SIOOBE_FORMATTER" "Ljava/util/function/BiFunction;" (Az G) σ σ.heap) ∧ ∀ q ∈ msgs, ∃ a, vk_R "FaceCoins" q.1 q.2 a σ
theorem sg_kept {G : Gx} {σ : State} {M : Mm} {H : Heap} (hs : σ.heap.size = G.2.2) (hw : Wp G σ M H) : ∀ a : Nat, a < σ.heap.size → ¬ Az G a → H[a]? = σ.heap[a]? := fun a h _ => hw.2.2 a (by rw [← hs]; exact h)
theorem stl_rg (k j : Nat) : rg ((stl.getD k []).getD j 0) := by
  rcases k with _ | _ | _ | k <;> rcases j with _ | _ | _ | _ | j <;> simp [stl, rg]
theorem told_rg : ∀ j, j < 102 → rg (told.getD j 0) ∧ ((iv (told.getD j 0)) &&& 255) = iv (told.getD j 0) ∧ (((iv (told.getD j 0)).toUInt32 % 65536).toInt32) = iv (told.getD j 0) ∧ narrow .char (.int (iv (told.getD j 0))) = .int (iv (told.getD j 0)) := by decide +kernel
def Cy (G : Gx) (σ : State) : Prop := Cz G σ ∧ Zs G σ
section STRX
variable {G : Gx} {σ : State} {p : Program} {l : Launch} {e : Env} {R0 : Room} {s : State} {m : MethodId} {args : Array Value} {below : List Frame} {meth : Method} {c : Code} {y : MethodName} {cc : ByteArray} {nL : Nat} {ret : Option FieldType} {d mc ms : Nat} {Q : Option Value → Mm → Prop} {M M1 : Mm} {k n pc : Nat} {lv lv' : List (Nat × Value)} {st st0 : List Value} {i ci j id t : Nat}
theorem x_gets {Cn nm ds : String} {v : Value} (C : Bx G σ p R0 s m args meth c y cc nL ret d mc ms) (hd : decode cc pc = .ok (.getstatic i, 3)) (hlk : Cond.fieldLink y.cls i Cn nm ds ∈ gt) (hz : va_Z Cn nm ds v (Az G) σ σ.heap) (kk : Jz G σ p l e R0 s m args below meth c nL mc ms Q M k n (pc + 3) lv (v :: st)) : Jz G σ p l e R0 s m args below meth c nL mc ms Q M k n pc lv st := by
  intro H locs ls hw hl hv
  obtain ⟨hC, hx, hb, hml, hown, hts, hr, hlocks, hK, hal, hR, hnme, hnw⟩ := C
  obtain ⟨cf, kf, fi, f, b, cell, h1, h2, h3, h4, h5, h6, h7, h8⟩ := (va_Z.moved hal.alike hz).kept (sg_kept hC.2.1 hw)
  exact W.gets hx hb hown (hts _ hlk) h1 h2 h3 h4 h5 (fun e => by rw [e] at h6; cases h6) h7 rfl hd (kk H locs ls hw hl hv)
theorem x_getf {o nm ds : String} {v : Value} {a : Nat} (C : Bx G σ p R0 s m args meth c y cc nL ret d mc ms) (hd : decode cc pc = .ok (.getfield i, 3)) (hlk : Cond.fieldLink y.cls i o nm ds ∈ gt) (hz : va_OF o nm ds v a (Az G) σ σ.heap) (kk : Jz G σ p l e R0 s m args below meth c nL mc ms Q M k n (pc + 3) lv (v :: st)) : Jz G σ p l e R0 s m args below meth c nL mc ms Q M k n pc lv (.ref a :: st) := by
  intro H locs ls hw hl hv
  obtain ⟨hC, hx, hb, hml, hown, hts, hr, hlocks, hK, hal, hR, hnme, hnw⟩ := C
  obtain ⟨cf, kf, fi, f, cell, h1, h2, h3, h4, h5, h6⟩ := (va_OF.moved hal.alike hz).kept (sg_kept hC.2.1 hw)
  exact W.getf hx hb hown (hts _ hlk) h1 h2 h3 h4 h5 rfl rfl hd (kk H locs ls hw hl hv)
theorem x_alen {ty : FieldType} {t N : Nat} {f : Nat → Value} (C : Bx G σ p R0 s m args meth c y cc nL ret d mc ms) (hd : decode cc pc = .ok (.arraylength, 1)) (hT : va_T ty t N f (Az G) σ σ.heap) (kk : Jz G σ p l e R0 s m args below meth c nL mc ms Q M k n (pc + 1) lv (.int (Int32.ofNat N) :: st)) : Jz G σ p l e R0 s m args below meth c nL mc ms Q M k n pc lv (.ref t :: st) := by
  intro H locs ls hw hl hv
  obtain ⟨hC, hx, hb, hml, hown, hts, hr, hlocks, hK, hal, hR, hnme, hnw⟩ := C
  obtain ⟨cell, h1, h2, h3, h4, h5, h6, h7⟩ := (va_T.moved hal.alike hT).kept (sg_kept hC.2.1 hw)
  exact W.alen hx hb h1 h2 h5 rfl rfl hd (kk H locs ls hw hl hv)
theorem x_bald {t N : Nat} {f : Nat → Value} {x : Int} (C : Bx G σ p R0 s m args meth c y cc nL ret d mc ms) (hd : decode cc pc = .ok (.baload, 1)) (hT : va_T .byte t N f (Az G) σ σ.heap) (h0 : 0 ≤ x) (hN : x < N) (h31 : N < 2147483648) (kk : Jz G σ p l e R0 s m args below meth c nL mc ms Q M k n (pc + 1) lv (f x.toNat :: st)) : Jz G σ p l e R0 s m args below meth c nL mc ms Q M k n pc lv (.int (iv x) :: .ref t :: st) := by
  intro H locs ls hw hl hv
  obtain ⟨hC, hx, hb, hml, hown, hts, hr, hlocks, hK, hal, hR, hnme, hnw⟩ := C
  obtain ⟨cell, h1, h2, h3, h4, h5, h6, h7⟩ := (va_T.moved hal.alike hT).kept (sg_kept hC.2.1 hw)
  obtain ⟨hi1, hi2⟩ := iv_idx (a := x) (q := x.toNat) (by omega) (by omega)
  exact W.bald (v := f x.toNat) hx hb h1 h2 h3 (fun q => q.elim hi2 (fun q => by omega)) (by rw [hi1]; exact h6 _ (by omega)) rfl rfl hd (kk H locs ls hw hl hv)
theorem x_ret {ty : FieldType} {v : Int} (C : Bx G σ p R0 s m args meth c y cc nL (some ty) d mc ms) (hd : decode cc pc = .ok (.ireturn, 1)) (hz : narrow ty (.int (iv v)) = .int (iv v)) (hk : k ≤ mc) (hn : n ≤ ms) (hq : Q (some (.int (iv v))) M) : Jz G σ p l e R0 s m args below meth c nL mc ms Q M k n pc lv [.int (iv v)] := by
  intro H locs ls hw hl hv
  obtain ⟨hC, hx, hb, hml, hown, hts, hr, hlocks, hK, hal, hR, hnme, hnw⟩ := C
  refine W.widen hk hn ?_
  exact W.imp (fun _ h => .inl h) (W.zret hx hb hr hz (fun t ht hW => ⟨⟨_, M, rfl, hq, hal.trans hW, by rw [ht]; exact hw⟩, fun h => by cases h⟩) hl hd hlocks)
/-- what a virtual call of a method of an object ahead of the world links to -/
def MlO (own : String) (i : Nat) (y2 : MethodName) (cc2 : ByteArray) (nL2 : Nat) (ret2 : Option FieldType) (na : Nat) : Prop :=
  (y2.cls ≠ "java/lang/invoke/MethodHandle" ∧ y2.cls ≠ "java/lang/invoke/VarHandle" ∧ (parseMethodDescriptor y2.desc).map (fun d => d.parameters.length) = some na) ∧ nL2 ≤ 40 ∧ Cond.code y2 cc2 nL2 ret2 ∈ gt ∧ Cond.initialized y2.cls ∈ gt ∧ Cond.instanceMethod y2 ∈ gt ∧ Cond.selects y2.cls y2 y2 ∈ gt ∧ Cond.methodLink own i y2 ∈ gt
theorem x_callV {y2 : MethodName} {cc2 : ByteArray} {nL2 na d2 : Nat} {ret2 : Option FieldType} {As : List Value} {Q2 : Option Value → Mm → Prop} {a : Nat} (C : Bx G σ p R0 s m args meth c y cc nL ret d mc ms) (hd : decode cc pc = .ok (.invokevirtual i, 3)) (hL : MlO y.cls i y2 cc2 nL2 ret2 na) (ho : va_O y2.cls a (Az G) σ σ.heap) (hM : Ct G σ d2 y2 cc2 nL2 ret2 (.ref a :: As) M 0 0 Q2) (hn : As.length = na) (hst : st0 = As.reverse ++ .ref a :: st) (hrm : (st.map fun v => v.category).sum ≤ 8) (hd2 : d2 + 1 ≤ d) (kk : ∀ (v : Option Value) (M' : Mm), Q2 v M' → Jz G σ p l e R0 s m args below meth c nL mc ms Q M' k n (pc + 3) lv (v.toList ++ st)) (hmc : k ≤ mc := by omega) (hms : n ≤ ms := by omega) : Jz G σ p l e R0 s m args below meth c nL mc ms Q M k n pc lv st0 := by
  intro H locs ls hw hl hv
  obtain ⟨hC, hx, hb, hml, hown, hts, hr, hlocks, hK, hal, hR, hnme, hnw⟩ := C
  obtain ⟨h1, h40, hcode, hini, hinst, hsel, hlk⟩ := hL
  subst hR
  have hrecv : ∃ cell : Cell, H[a]? = some cell ∧ cell.vm.isStatics = false ∧ s.vm.findClass y2.cls = some cell.cls := by
    obtain ⟨cell, g1, g2, g3, -⟩ := (va_O.moved hal.alike ho).kept (sg_kept hC.2.1 hw)
    exact ⟨cell, g1, g2, g3⟩
  have hpre : PreV s H y2.cls a (va_Pc (.ref a :: As) (Wd G σ M)) As := ⟨Wd_blind _ _, hrecv, fun U hU hW => ⟨rfl, hal.trans hW, by rw [hU]; exact hw⟩⟩
  have hroom : (rmz d2 0 0).frames + 1 ≤ (rmz d mc ms).frames ∧ 8 + (nL2 + 11) + (rmz d2 0 0).locals ≤ (rmz d mc ms).locals := ⟨hd2, by show 8 + (nL2 + 11) + 64 * d2 ≤ 64 * d; omega⟩
  exact z_run (va_runV (Ts := gt) (own := y.cls) (C := y2.cls) ⟨hx, hb, hml, hown, hts⟩ (hM l) ⟨callB_of na hts (gt_goodc hcode) rfl rfl rfl (hts _ hini) (hts _ hlk) h1 hroom, hts _ hinst, hts _ hsel⟩ hpre rfl hn hv.1 hst (lv_room hrm) hd ⟨hmc, hms⟩) hl hv kk
end STRX
abbrev yS_length : MethodName := ⟨"java/lang/String", "length", "()I"⟩
abbrev yS_coder : MethodName := ⟨"java/lang/String", "coder", "()B"⟩
abbrev yS_charAt : MethodName := ⟨"java/lang/String", "charAt", "(I)C"⟩
abbrev yS_isLatin1 : MethodName := ⟨"java/lang/String", "isLatin1", "()Z"⟩
abbrev yS_lcharAt : MethodName := ⟨"java/lang/StringLatin1", "charAt", "([BI)C"⟩
abbrev yS_checkIndex : MethodName := ⟨"java/lang/String", "checkIndex", "(II)V"⟩
abbrev yS_pcheck : MethodName := ⟨"jdk/internal/util/Preconditions", "checkIndex", "(IILjava/util/function/BiFunction;)I"⟩
theorem dSl_0 : decode prog_19_method_54_code 0 = .ok (.aload_n 0, 1) := by decide +kernel
theorem dSl_1 : decode prog_19_method_54_code 1 = .ok (.getfield 9, 3) := by decide +kernel
theorem dSl_4 : decode prog_19_method_54_code 4 = .ok (.arraylength, 1) := by decide +kernel
theorem dSl_5 : decode prog_19_method_54_code 5 = .ok (.aload_n 0, 1) := by decide +kernel
theorem dSl_6 : decode prog_19_method_54_code 6 = .ok (.invokevirtual 335, 3) := by decide +kernel
theorem dSl_9 : decode prog_19_method_54_code 9 = .ok (.ishr, 1) := by decide +kernel
theorem dSl_10 : decode prog_19_method_54_code 10 = .ok (.ireturn, 1) := by decide +kernel
theorem dSc_0 : decode prog_19_method_152_code 0 = .ok (.getstatic 38, 3) := by decide +kernel
theorem dSc_3 : decode prog_19_method_152_code 3 = .ok (.ifCond .eq 10, 3) := by decide +kernel
theorem dSc_6 : decode prog_19_method_152_code 6 = .ok (.aload_n 0, 1) := by decide +kernel
theorem dSc_7 : decode prog_19_method_152_code 7 = .ok (.getfield 15, 3) := by decide +kernel
theorem dSc_10 : decode prog_19_method_152_code 10 = .ok (.goto 4, 3) := by decide +kernel
theorem dSc_14 : decode prog_19_method_152_code 14 = .ok (.ireturn, 1) := by decide +kernel
theorem dSh_0 : decode prog_19_method_56_code 0 = .ok (.aload_n 0, 1) := by decide +kernel
theorem dSh_1 : decode prog_19_method_56_code 1 = .ok (.invokevirtual 492, 3) := by decide +kernel
theorem dSh_4 : decode prog_19_method_56_code 4 = .ok (.ifCond .eq 12, 3) := by decide +kernel
theorem dSh_7 : decode prog_19_method_56_code 7 = .ok (.aload_n 0, 1) := by decide +kernel
theorem dSh_8 : decode prog_19_method_56_code 8 = .ok (.getfield 9, 3) := by decide +kernel
theorem dSh_11 : decode prog_19_method_56_code 11 = .ok (.iload_n 1, 1) := by decide +kernel
theorem dSh_12 : decode prog_19_method_56_code 12 = .ok (.invokestatic 495, 3) := by decide +kernel
theorem dSh_15 : decode prog_19_method_56_code 15 = .ok (.ireturn, 1) := by decide +kernel
theorem dSi_0 : decode prog_19_method_154_code 0 = .ok (.getstatic 38, 3) := by decide +kernel
theorem dSi_3 : decode prog_19_method_154_code 3 = .ok (.ifCond .eq 14, 3) := by decide +kernel
theorem dSi_6 : decode prog_19_method_154_code 6 = .ok (.aload_n 0, 1) := by decide +kernel
theorem dSi_7 : decode prog_19_method_154_code 7 = .ok (.getfield 15, 3) := by decide +kernel
theorem dSi_10 : decode prog_19_method_154_code 10 = .ok (.ifCond .ne 7, 3) := by decide +kernel
theorem dSi_13 : decode prog_19_method_154_code 13 = .ok (.iconst 1, 1) := by decide +kernel
theorem dSi_14 : decode prog_19_method_154_code 14 = .ok (.goto 4, 3) := by decide +kernel
theorem dSi_18 : decode prog_19_method_154_code 18 = .ok (.ireturn, 1) := by decide +kernel
theorem dSm_0 : decode prog_20_method_2_code 0 = .ok (.iload_n 1, 1) := by decide +kernel
theorem dSm_1 : decode prog_20_method_2_code 1 = .ok (.aload_n 0, 1) := by decide +kernel
theorem dSm_2 : decode prog_20_method_2_code 2 = .ok (.arraylength, 1) := by decide +kernel
theorem dSm_3 : decode prog_20_method_2_code 3 = .ok (.invokestatic 9, 3) := by decide +kernel
theorem dSm_6 : decode prog_20_method_2_code 6 = .ok (.aload_n 0, 1) := by decide +kernel
theorem dSm_7 : decode prog_20_method_2_code 7 = .ok (.iload_n 1, 1) := by decide +kernel
theorem dSm_8 : decode prog_20_method_2_code 8 = .ok (.baload, 1) := by decide +kernel
theorem dSm_9 : decode prog_20_method_2_code 9 = .ok (.sipush 255, 3) := by decide +kernel
theorem dSm_12 : decode prog_20_method_2_code 12 = .ok (.iand, 1) := by decide +kernel
theorem dSm_13 : decode prog_20_method_2_code 13 = .ok (.i2c, 1) := by decide +kernel
theorem dSm_14 : decode prog_20_method_2_code 14 = .ok (.ireturn, 1) := by decide +kernel
theorem dSx_0 : decode prog_19_method_155_code 0 = .ok (.iload_n 0, 1) := by decide +kernel
theorem dSx_1 : decode prog_19_method_155_code 1 = .ok (.iload_n 1, 1) := by decide +kernel
theorem dSx_2 : decode prog_19_method_155_code 2 = .ok (.getstatic 1053, 3) := by decide +kernel
theorem dSx_5 : decode prog_19_method_155_code 5 = .ok (.invokestatic 1059, 3) := by decide +kernel
theorem dSx_8 : decode prog_19_method_155_code 8 = .ok (.pop, 1) := by decide +kernel
theorem dSx_9 : decode prog_19_method_155_code 9 = .ok (.return_, 1) := by decide +kernel
theorem dSp_0 : decode prog_27_method_11_code 0 = .ok (.iload_n 0, 1) := by decide +kernel
theorem dSp_1 : decode prog_27_method_11_code 1 = .ok (.ifCond .lt 8, 3) := by decide +kernel
theorem dSp_4 : decode prog_27_method_11_code 4 = .ok (.iload_n 0, 1) := by decide +kernel
theorem dSp_5 : decode prog_27_method_11_code 5 = .ok (.iload_n 1, 1) := by decide +kernel
theorem dSp_6 : decode prog_27_method_11_code 6 = .ok (.if_icmp .lt 10, 3) := by decide +kernel
theorem dSp_16 : decode prog_27_method_11_code 16 = .ok (.iload_n 0, 1) := by decide +kernel
theorem dSp_17 : decode prog_27_method_11_code 17 = .ok (.ireturn, 1) := by decide +kernel
theorem mS_coder : MlO "java/lang/String" 335 yS_coder prog_19_method_152_code 1 (some .byte) 0 := ⟨⟨by decide, by decide, by decide +kernel⟩, by decide, (gt_3 (i := 5) (by decide +kernel) (by decide +kernel)), (gt_1 (i := 12) (by decide +kernel) (by decide +kernel)), (gt_3 (i := 3) (by decide +kernel) (by decide +kernel)), (gt_3 (i := 4) (by decide +kernel) (by decide +kernel)), (gt_3 (i := 2) (by decide +kernel) (by decide +kernel))⟩
theorem mS_isLatin1 : MlO "java/lang/String" 492 yS_isLatin1 prog_19_method_154_code 1 (some .boolean) 0 := ⟨⟨by decide, by decide, by decide +kernel⟩, by decide, (gt_3 (i := 15) (by decide +kernel) (by decide +kernel)), (gt_1 (i := 12) (by decide +kernel) (by decide +kernel)), (gt_3 (i := 13) (by decide +kernel) (by decide +kernel)), (gt_3 (i := 14) (by decide +kernel) (by decide +kernel)), (gt_3 (i := 12) (by decide +kernel) (by decide +kernel))⟩
theorem mS_length : MlO "FaceCoins$Tape" 63 yS_length prog_19_method_54_code 1 (some .int) 0 := ⟨⟨by decide, by decide, by decide +kernel⟩, by decide, (gt_3 (i := 1) (by decide +kernel) (by decide +kernel)), (gt_1 (i := 12) (by decide +kernel) (by decide +kernel)), (gt_2 (i := 239) (by decide +kernel) (by decide +kernel)), (gt_3 (i := 0) (by decide +kernel) (by decide +kernel)), (gt_2 (i := 238) (by decide +kernel) (by decide +kernel))⟩
theorem mS_charAt : MlO "FaceCoins$Tape" 67 yS_charAt prog_19_method_56_code 2 (some .char) 1 := ⟨⟨by decide, by decide, by decide +kernel⟩, by decide, (gt_3 (i := 11) (by decide +kernel) (by decide +kernel)), (gt_1 (i := 12) (by decide +kernel) (by decide +kernel)), (gt_3 (i := 9) (by decide +kernel) (by decide +kernel)), (gt_3 (i := 10) (by decide +kernel) (by decide +kernel)), (gt_3 (i := 8) (by decide +kernel) (by decide +kernel))⟩
theorem mS_lcharAt : MlS "java/lang/String" 495 yS_lcharAt prog_20_method_2_code 2 (some .char) 2 := ⟨⟨by decide, by decide, by decide +kernel⟩, by decide, (gt_3 (i := 18) (by decide +kernel) (by decide +kernel)), (gt_1 (i := 13) (by decide +kernel) (by decide +kernel)), (gt_3 (i := 17) (by decide +kernel) (by decide +kernel)), (gt_3 (i := 16) (by decide +kernel) (by decide +kernel))⟩
theorem mS_checkIndex : MlS "java/lang/StringLatin1" 9 yS_checkIndex prog_19_method_155_code 2 none 2 := ⟨⟨by decide, by decide, by decide +kernel⟩, by decide, (gt_3 (i := 21) (by decide +kernel) (by decide +kernel)), (gt_1 (i := 12) (by decide +kernel) (by decide +kernel)), (gt_3 (i := 20) (by decide +kernel) (by decide +kernel)), (gt_3 (i := 19) (by decide +kernel) (by decide +kernel))⟩
theorem mS_pcheck : MlS "java/lang/String" 1059 yS_pcheck prog_27_method_11_code 3 (some .int) 3 := ⟨⟨by decide, by decide, by decide +kernel⟩, by decide, (gt_3 (i := 26) (by decide +kernel) (by decide +kernel)), (gt_1 (i := 14) (by decide +kernel) (by decide +kernel)), (gt_3 (i := 25) (by decide +kernel) (by decide +kernel)), (gt_3 (i := 24) (by decide +kernel) (by decide +kernel))⟩
section STRC
variable {G : Gx} {σ : State} {M0 : Mm} {a : Nat}
theorem tS_coder (hC : Cy G σ) (ha : TDat G σ a) : Ct G σ 1 yS_coder prog_19_method_152_code 1 (some .byte) [.ref a] M0 0 0 (Qi 0 M0) := by
  refine Ct.of hC.1 (by decide +kernel) (Nat.le_of_ble_eq_true rfl) ?_
  intro p l e R0 s m args below meth c C
  show Jz G σ p l e R0 s m args below meth c 1 0 0 (Qi 0 M0) M0 0 0 0 [(0, .ref a)] []
  refine x_gets C dSc_0 (gt_3 (i := 6) (by decide +kernel) (by decide +kernel)) hC.2.2.2.2.1.1 ?_
  refine z_if_eq 13 C dSc_3 (by decide) (by decide) (fun h => absurd h (by decide)) (fun _ => ?_)
  refine z_aload_n C dSc_6 0 rfl ?_
  refine x_getf C dSc_7 (gt_8 (i := 121) (by decide +kernel) (by decide +kernel)) ha.2.1 ?_
  refine z_goto 14 C dSc_10 (by decide) ?_
  exact x_ret C dSc_14 (by decide) (Nat.le_refl _) (Nat.le_refl _) ⟨rfl, rfl, by decide⟩
theorem tS_isLatin1 (hC : Cy G σ) (ha : TDat G σ a) : Ct G σ 1 yS_isLatin1 prog_19_method_154_code 1 (some .boolean) [.ref a] M0 0 0 (Qb 1 M0) := by
  refine Ct.of hC.1 (by decide +kernel) (Nat.le_of_ble_eq_true rfl) ?_
  intro p l e R0 s m args below meth c C
  show Jz G σ p l e R0 s m args below meth c 1 0 0 (Qb 1 M0) M0 0 0 0 [(0, .ref a)] []
  refine x_gets C dSi_0 (gt_3 (i := 6) (by decide +kernel) (by decide +kernel)) hC.2.2.2.2.1.1 ?_
  refine z_if_eq 17 C dSi_3 (by decide) (by decide) (fun h => absurd h (by decide)) (fun _ => ?_)
  refine z_aload_n C dSi_6 0 rfl ?_
  refine x_getf C dSi_7 (gt_8 (i := 121) (by decide +kernel) (by decide +kernel)) ha.2.1 ?_
  refine z_if_ne 17 C dSi_10 (by decide) (by decide) (fun h => absurd rfl h) (fun _ => ?_)
  refine z_iconst C dSi_13 ?_
  refine z_goto 18 C dSi_14 (by decide) ?_
  exact x_ret C dSi_18 (by decide) (Nat.le_refl _) (Nat.le_refl _) ⟨rfl, rfl, .inr rfl⟩
theorem tS_length (hC : Cy G σ) (ha : TDat G σ a) : Ct G σ 2 yS_length prog_19_method_54_code 1 (some .int) [.ref a] M0 0 0 (Qi 102 M0) := by
  refine Ct.of hC.1 (by decide +kernel) (Nat.le_of_ble_eq_true rfl) ?_
  intro p l e R0 s m args below meth c C
  show Jz G σ p l e R0 s m args below meth c 1 0 0 (Qi 102 M0) M0 0 0 0 [(0, .ref a)] []
  obtain ⟨v, hv, ht⟩ := ha.2.2
  refine z_aload_n C dSl_0 0 rfl ?_
  refine x_getf C dSl_1 (gt_8 (i := 120) (by decide +kernel) (by decide +kernel)) hv ?_
  refine x_alen C dSl_4 ht ?_
  refine z_aload_n C dSl_5 0 rfl ?_
  refine x_callV (As := []) (st := [.int (Int32.ofNat 102)]) C dSl_6 mS_coder ha.1 (tS_coder hC ha) rfl rfl (Nat.le_of_ble_eq_true rfl) (by decide) (fun v M' h => ?_)
  obtain ⟨rfl, rfl, -⟩ := h
  show Jz G σ p l e R0 s m args below meth c 1 0 0 (Qi 102 M') M' 0 0 9 [(0, .ref a)] [.int (iv 0), .int (iv 102)]
  refine z_ishr 102 C dSl_9 (by decide) ?_
  exact x_ret C dSl_10 (by decide) (Nat.le_refl _) (Nat.le_refl _) ⟨rfl, rfl, by decide⟩
theorem tS_pcheck (hC : Cy G σ) {x y : Int} (w : Value) (hw : w.category = 1) (h0 : 0 ≤ x) (h1 : x < y) (h2 : y < 2147483648) : Ct G σ 1 yS_pcheck prog_27_method_11_code 3 (some .int) [.int (iv x), .int (iv y), w] M0 0 0 (Qi x M0) := by
  refine Ct.of hC.1 (by decide +kernel) ?_ ?_
  · cases w <;> first | exact Nat.le_of_ble_eq_true rfl | cases hw
  intro p l e R0 s m args below meth c C
  show Jz G σ p l e R0 s m args below meth c 3 0 0 (Qi x M0) M0 0 0 0 [(0, .int (iv x)), (1, .int (iv y)), (2, w)] []
  refine z_iload_n C dSp_0 0 rfl ?_
  refine z_if_lt 9 C dSp_1 (by decide) (by omega) (fun h => absurd h (by omega)) (fun _ => ?_)
  refine z_iload_n C dSp_4 0 rfl ?_
  refine z_iload_n C dSp_5 1 rfl ?_
  refine z_icmp_lt 16 C dSp_6 (by decide) (by omega) (by omega) (fun _ => ?_) (fun h => absurd h1 h)
  refine z_iload_n C dSp_16 0 rfl ?_
  exact x_ret C dSp_17 rfl (Nat.le_refl _) (Nat.le_refl _) ⟨rfl, rfl, by unfold rg; omega⟩
theorem tS_checkIndex (hC : Cy G σ) {x y : Int} (h0 : 0 ≤ x) (h1 : x < y) (h2 : y < 2147483648) : Ct G σ 2 yS_checkIndex prog_19_method_155_code 2 none [.int (iv x), .int (iv y)] M0 0 0 (Qv M0) := by
  refine Ct.of hC.1 (by decide +kernel) (Nat.le_of_ble_eq_true rfl) ?_
  intro p l e R0 s m args below meth c C
  show Jz G σ p l e R0 s m args below meth c 2 0 0 (Qv M0) M0 0 0 0 [(0, .int (iv x)), (1, .int (iv y))] []
  refine z_iload_n C dSx_0 0 rfl ?_
  refine z_iload_n C dSx_1 1 rfl ?_
  have go : ∀ w : Value, w.category = 1 → Jz G σ p l e R0 s m args below meth c 2 0 0 (Qv M0) M0 0 0 5 [(0, .int (iv x)), (1, .int (iv y))] [w, .int (iv y), .int (iv x)] := by
    intro w hw
    refine y_cSi (st := []) (As := [.int (iv x), .int (iv y), w]) C dSx_5 mS_pcheck (tS_pcheck hC w hw h0 h1 h2) rfl rfl (Nat.le_of_ble_eq_true rfl) (by decide) (fun _ => ?_)
    refine z_pop C dSx_8 rfl ?_
    exact y_ret C dSx_9
  rcases hC.2.2.2.2.1.2 with h | ⟨t, h⟩
  · exact x_gets C dSx_2 (gt_3 (i := 22) (by decide +kernel) (by decide +kernel)) h (go _ rfl)
  · exact x_gets C dSx_2 (gt_3 (i := 22) (by decide +kernel) (by decide +kernel)) h (go _ rfl)
theorem tS_lcharAt (hC : Cy G σ) {v : Nat} {x : Int} (ht : va_T .byte v 102 (fun j => .int (iv (told.getD j 0))) (Az G) σ σ.heap) (h0 : 0 ≤ x) (h1 : x < 102) : Ct G σ 3 yS_lcharAt prog_20_method_2_code 2 (some .char) [.ref v, .int (iv x)] M0 0 0 (Qi (told.getD x.toNat 0) M0) := by
  refine Ct.of hC.1 (by decide +kernel) (Nat.le_of_ble_eq_true rfl) ?_
  intro p l e R0 s m args below meth c C
  show Jz G σ p l e R0 s m args below meth c 2 0 0 (Qi (told.getD x.toNat 0) M0) M0 0 0 0 [(0, .ref v), (1, .int (iv x))] []
  obtain ⟨g1, g2, g3, g4⟩ := told_rg x.toNat (by omega)
  refine z_iload_n C dSm_0 1 rfl ?_
  refine z_aload_n C dSm_1 0 rfl ?_
  refine x_alen C dSm_2 ht ?_
  refine z_callS (st := []) (As := [.int (iv x), .int (iv 102)]) C dSm_3 mS_checkIndex (tS_checkIndex hC h0 h1 (by decide)) rfl rfl (Nat.le_of_ble_eq_true rfl) (by decide) (Nat.le_refl _) (Nat.le_refl _) (fun w M' h => ?_)
  obtain ⟨rfl, rfl⟩ := h
  refine z_aload_n C dSm_6 0 rfl ?_
  refine z_iload_n C dSm_7 1 rfl ?_
  refine x_bald C dSm_8 ht h0 h1 (by decide) ?_
  refine z_sipush C dSm_9 (by decide) ?_
  refine z_iand (told.getD x.toNat 0) C dSm_12 g2 ?_
  intro H locs ls hw hl hv
  exact lv_i2c C.2.1 C.2.2.1 dSm_13 g3 (x_ret C dSm_14 g4 (Nat.le_refl _) (Nat.le_refl _) ⟨rfl, rfl, g1⟩ H locs ls hw hl hv)
theorem tS_charAt (hC : Cy G σ) (ha : TDat G σ a) {x : Int} (h0 : 0 ≤ x) (h1 : x < 102) : Ct G σ 4 yS_charAt prog_19_method_56_code 2 (some .char) [.ref a, .int (iv x)] M0 0 0 (Qi (told.getD x.toNat 0) M0) := by
  refine Ct.of hC.1 (by decide +kernel) (Nat.le_of_ble_eq_true rfl) ?_
  intro p l e R0 s m args below meth c C
  show Jz G σ p l e R0 s m args below meth c 2 0 0 (Qi (told.getD x.toNat 0) M0) M0 0 0 0 [(0, .ref a), (1, .int (iv x))] []
  obtain ⟨v, hv, ht⟩ := ha.2.2
  obtain ⟨g1, g2, g3, g4⟩ := told_rg x.toNat (by omega)
  refine z_aload_n C dSh_0 0 rfl ?_
  refine x_callV (As := []) (st := []) C dSh_1 mS_isLatin1 ha.1 (tS_isLatin1 hC ha) rfl rfl (Nat.le_of_ble_eq_true rfl) (by decide) (fun w M' h => ?_)
  obtain ⟨rfl, rfl, -⟩ := h
  refine z_if_eq 16 C dSh_4 (by decide) (by decide) (fun h => absurd h (by decide)) (fun _ => ?_)
  refine z_aload_n C dSh_7 0 rfl ?_
  refine x_getf C dSh_8 (gt_8 (i := 120) (by decide +kernel) (by decide +kernel)) hv ?_
  refine z_iload_n C dSh_11 1 rfl ?_
  refine y_cSi (st := []) (As := [.ref v, .int (iv x)]) C dSh_12 mS_lcharAt (tS_lcharAt hC ht h0 h1) rfl rfl (Nat.le_of_ble_eq_true rfl) (by decide) (fun _ => ?_)
  exact x_ret C dSh_15 g4 (Nat.le_refl _) (Nat.le_refl _) ⟨rfl, rfl, g1⟩
end STRC
