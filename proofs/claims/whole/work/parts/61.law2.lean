section LAW
variable {G : Gx} {σ : State} {p : Program} {l : Launch} {e : Env} {R0 : Room} {s : State} {m : MethodId} {args : Array Value} {below : List Frame} {meth : Method} {c : Code} {Q : Option Value → Mm → Prop} {M M1 M2 : Mm} {k n a N i : Nat} {S : Nat → Int} {x : Int}
theorem lw_sales (hC : Cy G σ) (C : BxL G σ p R0 s m args meth c) (hS : Scr G σ a N S) (hi : i + 6 ≤ N) (k1 : Kd M 0 9) (k2 : Kd M 57 10) (hk : k + 25 ≤ 601024) (hn : n + 9146 ≤ 7293034) (h1 : uX9_sales 0  M = some x) (h2 : uX10_sales 57  M = some (x, M2)) (kk : Jz G σ p l e R0 s m args below meth c 7 601024 7293034 Q M2 (k + 25) (n + 9146) 1584 (LV G a i) []) : Jz G σ p l e R0 s m args below meth c 7 601024 7293034 Q M k n 790 (LV G a i) [] := by
  refine z_aload_n C dL_law_790 1 rfl ?_
  refine y_cVi (st := []) (As := []) (M1 := M) (r := x) C dL_law_791 mL_91 k1 (tX9_sales hC 0   h1) rfl rfl (Nat.le_of_ble_eq_true rfl) (by decide) (fun g1 => ?_)
  refine z_aload_n C dL_law_794 2 rfl ?_
  refine y_cVi (st := [.int (iv x)]) (As := []) (M1 := M2) (r := x) C dL_law_795 mL_94 k2 (tX10_sales hC 57   h2) rfl rfl (Nat.le_of_ble_eq_true rfl) (by decide) (fun g2 => ?_)
  refine z_icmp_eq 1584 C dL_law_798 (by decide) g1 g2 (fun _ => ?_) (fun h => absurd rfl h)
  exact y_widen (by omega) (by omega) kk
theorem wl_sold : MlW RL 95 yL_sold cL_sold 5 (some .int) [(0, 10, 13, 13)] 4 := ⟨⟨by decide +kernel, by decide +kernel, by decide +kernel⟩, by decide, (gt_5 (i := 211) (by decide +kernel) (by decide +kernel)), gt_1 (i := 0) (by decide +kernel) (by decide +kernel), (gt_5 (i := 210) (by decide +kernel) (by decide +kernel)), (gt_5 (i := 209) (by decide +kernel) (by decide +kernel))⟩
theorem lw_sold_r (hC : Cy G σ) (hT : Zt G σ) (htr : ∀ e : Env, l.admits e → e.platform.stackTraces = false) (C : BxL G σ p R0 s m args meth c) (hS : Scr G σ a N S) (hi : i + 6 ≤ N) (k1 : Kd M 0 9) (ka : Ka M.1 80 13 1) (k2 : Kd (M.1, M.2.1, wj M.2.2 80 0 x) 57 10) (k3 : Kd M2 57 10) (hk : k + 25 ≤ 601024) (hn : n + 9146 ≤ 7293034) (h1 : eX9_sold 0 (S (i + 1)) (S (i + 2)) M = some (.inl x)) (h2 : uX10_sold 57 (S (i + 1)) (S (i + 2)) (M.1, M.2.1, wj M.2.2 80 0 x) = some (x, M2)) (h3 : uX10_thrown 57 M2 = some 0) (h4 : rg x → aJ M2 80 0 = some x) (kk : Jz G σ p l e R0 s m args below meth c 7 601024 7293034 Q M2 (k + 25) (n + 9146) 1584 (LV G a i) []) : Jz G σ p l e R0 s m args below meth c 7 601024 7293034 Q M k n 803 (LV G a i) [] := by
  have KK : rg x → Jz G σ p l e R0 s m args below meth c 7 601024 7293034 Q (M.1, M.2.1, wj M.2.2 80 0 x) (k + 1) (n + 6) 820 (LV G a i) [.int (iv 0)] := by
    intro gx
    refine z_istore (lv' := LW G a i 0) C dL_law_820 (by decide) [1, 2, 3, 4, 5, 0] rfl ?_
    refine z_aload_n C dL_law_822 2 rfl ?_
    refine x_arg C dL_law_823 dL_law_824 dL_law_826 dL_law_827 dL_law_828 rfl rfl hS hi (j := 1) rfl (by decide) ?_
    refine x_arg C dL_law_829 dL_law_830 dL_law_832 dL_law_833 dL_law_834 rfl rfl hS hi (j := 2) rfl (by decide) ?_
    refine y_cVi (st := []) (As := [.int (iv (S (i + 1))), .int (iv (S (i + 2)))]) (M1 := M2) (r := x) C dL_law_835 mL_97 k2 (tX10_sold hC 57 (S (i + 1)) (S (i + 2)) (hS.2.1 _) (hS.2.1 _) h2) rfl rfl (Nat.le_of_ble_eq_true rfl) (by decide) (fun g2 => ?_)
    refine z_istore (lv' := LX G a i 0 x) C dL_law_838 (by decide) [1, 2, 3, 4, 5, 6, 0] rfl ?_
    refine z_aload_n C dL_law_840 2 rfl ?_
    refine y_cVi (st := []) (As := []) (M1 := M2) (r := 0) C dL_law_841 mL_56 k3 (tX10_thrown hC 57 h3) rfl rfl (Nat.le_of_ble_eq_true rfl) (by decide) (fun g3 => ?_)
    refine z_iload C dL_law_844 5 rfl ?_
    refine z_icmp_eq 851 C dL_law_846 (by decide) (by decide) (by decide) (fun _ => ?_) (fun h => absurd rfl h)
    refine z_iload C dL_law_851 5 rfl ?_
    refine z_if_ne 868 C dL_law_853 (by decide) (by decide) (fun h => absurd rfl h) (fun _ => ?_)
    refine z_aload_n C dL_law_856 3 rfl ?_
    refine z_iconst C dL_law_857 ?_
    refine y_lald (id := 80) (x := 0) (v := x) C dL_law_858 (h4 gx) (fun gl => ?_)
    refine z_iload C dL_law_859 6 rfl ?_
    refine z_i2l x C dL_law_861 (i2l_iv gx) ?_
    refine z_lcmp 0 C dL_law_862 ((lcmp_jv gl gl).trans (by rw [if_pos rfl])) ?_
    refine z_if_eq 868 C dL_law_863 (by decide) (by decide) (fun _ => ?_) (fun h => absurd rfl h)
    refine z_goto 1584 C dL_law_868 (by decide) ?_
    refine z_drop (lv' := LV G a i) [0, 1, 2, 3, 4] rfl ?_
    exact y_widen (by omega) (by omega) kk
  refine z_aload_n C dL_law_803 1 rfl ?_
  refine x_arg C dL_law_804 dL_law_805 dL_law_807 dL_law_808 dL_law_809 rfl rfl hS hi (j := 1) rfl (by decide) ?_
  refine x_arg C dL_law_810 dL_law_811 dL_law_813 dL_law_814 dL_law_815 rfl rfl hS hi (j := 2) rfl (by decide) ?_
  refine z_aload_n C dL_law_816 3 rfl ?_
  refine z_callSW (st := []) (As := [.ref (G.2.2 + 0), .int (iv (S (i + 1))), .int (iv (S (i + 2))), .ref (G.2.2 + 80)]) (Q2 := Qw (.inl x) M 80) C htr dL_law_817 wl_sold (wL_sold hC hT (hS.2.1 _) (hS.2.1 _) k1 ka h1) rfl rfl (Nat.le_of_ble_eq_true rfl) (by decide) (by omega) (by omega) (fun v M' hq => by obtain ⟨rfl, rfl, gx⟩ := hq; exact KK gx)
theorem lw_sold_t (hC : Cy G σ) (hT : Zt G σ) (htr : ∀ e : Env, l.admits e → e.platform.stackTraces = false) (C : BxL G σ p R0 s m args meth c) (hS : Scr G σ a N S) (hi : i + 6 ≤ N) (k1 : Kd M 0 9) (ka : Ka M.1 80 13 1) (k2 : Kd (nC M 11 0) 57 10) (k3 : Kd M2 57 10) (hk : k + 25 ≤ 601024) (hn : n + 9146 ≤ 7293034) (h1 : eX9_sold 0 (S (i + 1)) (S (i + 2)) M = some (.inr ())) (h2 : uX10_sold 57 (S (i + 1)) (S (i + 2)) (nC M 11 0) = some (x, M2)) (h3 : uX10_thrown 57 M2 = some 1) (kk : Jz G σ p l e R0 s m args below meth c 7 601024 7293034 Q M2 (k + 25) (n + 9146) 1584 (LV G a i) []) : Jz G σ p l e R0 s m args below meth c 7 601024 7293034 Q M k n 803 (LV G a i) [] := by
  have KK : Jz G σ p l e R0 s m args below meth c 7 601024 7293034 Q (nC M 11 0) (k + 1) (n + 6) 820 (LV G a i) [.int (iv 1)] := by
    refine z_istore (lv' := LW G a i 1) C dL_law_820 (by decide) [1, 2, 3, 4, 5, 0] rfl ?_
    refine z_aload_n C dL_law_822 2 rfl ?_
    refine x_arg C dL_law_823 dL_law_824 dL_law_826 dL_law_827 dL_law_828 rfl rfl hS hi (j := 1) rfl (by decide) ?_
    refine x_arg C dL_law_829 dL_law_830 dL_law_832 dL_law_833 dL_law_834 rfl rfl hS hi (j := 2) rfl (by decide) ?_
    refine y_cVi (st := []) (As := [.int (iv (S (i + 1))), .int (iv (S (i + 2)))]) (M1 := M2) (r := x) C dL_law_835 mL_97 k2 (tX10_sold hC 57 (S (i + 1)) (S (i + 2)) (hS.2.1 _) (hS.2.1 _) h2) rfl rfl (Nat.le_of_ble_eq_true rfl) (by decide) (fun g2 => ?_)
    refine z_istore (lv' := LX G a i 1 x) C dL_law_838 (by decide) [1, 2, 3, 4, 5, 6, 0] rfl ?_
    refine z_aload_n C dL_law_840 2 rfl ?_
    refine y_cVi (st := []) (As := []) (M1 := M2) (r := 1) C dL_law_841 mL_56 k3 (tX10_thrown hC 57 h3) rfl rfl (Nat.le_of_ble_eq_true rfl) (by decide) (fun g3 => ?_)
    refine z_iload C dL_law_844 5 rfl ?_
    refine z_icmp_eq 851 C dL_law_846 (by decide) (by decide) (by decide) (fun _ => ?_) (fun h => absurd rfl h)
    refine z_iload C dL_law_851 5 rfl ?_
    refine z_if_ne 868 C dL_law_853 (by decide) (by decide) (fun _ => ?_) (fun h => absurd h (by decide))
    refine z_goto 1584 C dL_law_868 (by decide) ?_
    refine z_drop (lv' := LV G a i) [0, 1, 2, 3, 4] rfl ?_
    exact y_widen (by omega) (by omega) kk
  refine z_aload_n C dL_law_803 1 rfl ?_
  refine x_arg C dL_law_804 dL_law_805 dL_law_807 dL_law_808 dL_law_809 rfl rfl hS hi (j := 1) rfl (by decide) ?_
  refine x_arg C dL_law_810 dL_law_811 dL_law_813 dL_law_814 dL_law_815 rfl rfl hS hi (j := 2) rfl (by decide) ?_
  refine z_aload_n C dL_law_816 3 rfl ?_
  refine z_callSW (st := []) (As := [.ref (G.2.2 + 0), .int (iv (S (i + 1))), .int (iv (S (i + 2))), .ref (G.2.2 + 80)]) (Q2 := Qw (.inr ()) M 80) C htr dL_law_817 wl_sold (wL_sold hC hT (hS.2.1 _) (hS.2.1 _) k1 ka h1) rfl rfl (Nat.le_of_ble_eq_true rfl) (by decide) (by omega) (by omega) (fun v M' hq => by obtain ⟨rfl, rfl⟩ := hq; exact KK)
theorem lw_payment (hC : Cy G σ) (C : BxL G σ p R0 s m args meth c) (hS : Scr G σ a N S) (hi : i + 6 ≤ N) (k1 : Kd M 0 9) (k2 : Kd M1 57 10) (hk : k + 25 ≤ 601024) (hn : n + 9146 ≤ 7293034) (h1 : uX9_payment 0 (S (i + 1)) (S (i + 2)) (S (i + 3)) (S (i + 4)) M = some (x, M1)) (h2 : uX10_payment 57 (S (i + 1)) (S (i + 2)) (S (i + 3)) (S (i + 4)) M1 = some (x, M2)) (kk : Jz G σ p l e R0 s m args below meth c 7 601024 7293034 Q M2 (k + 25) (n + 9146) 1584 (LV G a i) []) : Jz G σ p l e R0 s m args below meth c 7 601024 7293034 Q M k n 871 (LV G a i) [] := by
  refine z_aload_n C dL_law_871 1 rfl ?_
  refine x_arg C dL_law_872 dL_law_873 dL_law_875 dL_law_876 dL_law_877 rfl rfl hS hi (j := 1) rfl (by decide) ?_
  refine x_arg C dL_law_878 dL_law_879 dL_law_881 dL_law_882 dL_law_883 rfl rfl hS hi (j := 2) rfl (by decide) ?_
  refine x_arg C dL_law_884 dL_law_885 dL_law_887 dL_law_888 dL_law_889 rfl rfl hS hi (j := 3) rfl (by decide) ?_
  refine x_arg C dL_law_890 dL_law_891 dL_law_893 dL_law_894 dL_law_895 rfl rfl hS hi (j := 4) rfl (by decide) ?_
  refine y_cVi (st := []) (As := [.int (iv (S (i + 1))), .int (iv (S (i + 2))), .int (iv (S (i + 3))), .int (iv (S (i + 4)))]) (M1 := M1) (r := x) C dL_law_896 mL_98 k1 (tX9_payment hC 0 (S (i + 1)) (S (i + 2)) (S (i + 3)) (S (i + 4)) (hS.2.1 _) (hS.2.1 _) (hS.2.1 _) (hS.2.1 _) h1) rfl rfl (Nat.le_of_ble_eq_true rfl) (by decide) (fun g1 => ?_)
  refine z_aload_n C dL_law_899 2 rfl ?_
  refine x_arg C dL_law_900 dL_law_901 dL_law_903 dL_law_904 dL_law_905 rfl rfl hS hi (j := 1) rfl (by decide) ?_
  refine x_arg C dL_law_906 dL_law_907 dL_law_909 dL_law_910 dL_law_911 rfl rfl hS hi (j := 2) rfl (by decide) ?_
  refine x_arg C dL_law_912 dL_law_913 dL_law_915 dL_law_916 dL_law_917 rfl rfl hS hi (j := 3) rfl (by decide) ?_
  refine x_arg C dL_law_918 dL_law_919 dL_law_921 dL_law_922 dL_law_923 rfl rfl hS hi (j := 4) rfl (by decide) ?_
  refine y_cVi (st := [.int (iv x)]) (As := [.int (iv (S (i + 1))), .int (iv (S (i + 2))), .int (iv (S (i + 3))), .int (iv (S (i + 4)))]) (M1 := M2) (r := x) C dL_law_924 mL_101 k2 (tX10_payment hC 57 (S (i + 1)) (S (i + 2)) (S (i + 3)) (S (i + 4)) (hS.2.1 _) (hS.2.1 _) (hS.2.1 _) (hS.2.1 _) h2) rfl rfl (Nat.le_of_ble_eq_true rfl) (by decide) (fun g2 => ?_)
  refine z_icmp_eq 1584 C dL_law_927 (by decide) g1 g2 (fun _ => ?_) (fun h => absurd rfl h)
  exact y_widen (by omega) (by omega) kk
theorem lw_paid (hC : Cy G σ) (C : BxL G σ p R0 s m args meth c) (hS : Scr G σ a N S) (hi : i + 6 ≤ N) (k1 : Kd M 0 9) (k2 : Kd M 57 10) (hk : k + 25 ≤ 601024) (hn : n + 9146 ≤ 7293034) (h1 : uX9_paid 0 (S (i + 1)) M = some x) (h2 : uX10_paid 57 (S (i + 1)) M = some (x, M2)) (kk : Jz G σ p l e R0 s m args below meth c 7 601024 7293034 Q M2 (k + 25) (n + 9146) 1584 (LV G a i) []) : Jz G σ p l e R0 s m args below meth c 7 601024 7293034 Q M k n 932 (LV G a i) [] := by
  refine z_aload_n C dL_law_932 1 rfl ?_
  refine x_arg C dL_law_933 dL_law_934 dL_law_936 dL_law_937 dL_law_938 rfl rfl hS hi (j := 1) rfl (by decide) ?_
  refine y_cVi (st := []) (As := [.int (iv (S (i + 1)))]) (M1 := M) (r := x) C dL_law_939 mL_102 k1 (tX9_paid hC 0 (S (i + 1)) (hS.2.1 _) h1) rfl rfl (Nat.le_of_ble_eq_true rfl) (by decide) (fun g1 => ?_)
  refine z_aload_n C dL_law_942 2 rfl ?_
  refine x_arg C dL_law_943 dL_law_944 dL_law_946 dL_law_947 dL_law_948 rfl rfl hS hi (j := 1) rfl (by decide) ?_
  refine y_cVi (st := [.int (iv x)]) (As := [.int (iv (S (i + 1)))]) (M1 := M2) (r := x) C dL_law_949 mL_106 k2 (tX10_paid hC 57 (S (i + 1)) (hS.2.1 _) h2) rfl rfl (Nat.le_of_ble_eq_true rfl) (by decide) (fun g2 => ?_)
  refine z_icmp_eq 1584 C dL_law_952 (by decide) g1 g2 (fun _ => ?_) (fun h => absurd rfl h)
  exact y_widen (by omega) (by omega) kk
theorem lw_buy (hC : Cy G σ) (C : BxL G σ p R0 s m args meth c) (hS : Scr G σ a N S) (hi : i + 6 ≤ N) (k1 : Kd M 0 9) (k2 : Kd M1 57 10) (hk : k + 25 ≤ 601024) (hn : n + 9146 ≤ 7293034) (h1 : uX9_buy 0 (S (i + 1)) (S (i + 2)) (S (i + 3)) (S (i + 4)) M = some (x, M1)) (h2 : uX10_buy 57 (S (i + 1)) (S (i + 2)) (S (i + 3)) (S (i + 4)) M1 = some (x, M2)) (kk : Jz G σ p l e R0 s m args below meth c 7 601024 7293034 Q M2 (k + 25) (n + 9146) 1584 (LV G a i) []) : Jz G σ p l e R0 s m args below meth c 7 601024 7293034 Q M k n 957 (LV G a i) [] := by
  refine z_aload_n C dL_law_957 1 rfl ?_
  refine x_arg C dL_law_958 dL_law_959 dL_law_961 dL_law_962 dL_law_963 rfl rfl hS hi (j := 1) rfl (by decide) ?_
  refine x_arg C dL_law_964 dL_law_965 dL_law_967 dL_law_968 dL_law_969 rfl rfl hS hi (j := 2) rfl (by decide) ?_
  refine x_arg C dL_law_970 dL_law_971 dL_law_973 dL_law_974 dL_law_975 rfl rfl hS hi (j := 3) rfl (by decide) ?_
  refine x_arg C dL_law_976 dL_law_977 dL_law_979 dL_law_980 dL_law_981 rfl rfl hS hi (j := 4) rfl (by decide) ?_
  refine y_cVia (st := []) (As := [.int (iv (S (i + 1))), .int (iv (S (i + 2))), .int (iv (S (i + 3))), .int (iv (S (i + 4)))]) (M1 := M1) (r := x) C dL_law_982 mL_107 k1 (tX9_buy hC 0 (S (i + 1)) (S (i + 2)) (S (i + 3)) (S (i + 4)) (hS.2.1 _) (hS.2.1 _) (hS.2.1 _) (hS.2.1 _) h1) rfl rfl (Nat.le_of_ble_eq_true rfl) (by decide) (fun g1 => ?_)
  refine z_aload_n C dL_law_985 2 rfl ?_
  refine x_arg C dL_law_986 dL_law_987 dL_law_989 dL_law_990 dL_law_991 rfl rfl hS hi (j := 1) rfl (by decide) ?_
  refine x_arg C dL_law_992 dL_law_993 dL_law_995 dL_law_996 dL_law_997 rfl rfl hS hi (j := 2) rfl (by decide) ?_
  refine x_arg C dL_law_998 dL_law_999 dL_law_1001 dL_law_1002 dL_law_1003 rfl rfl hS hi (j := 3) rfl (by decide) ?_
  refine x_arg C dL_law_1004 dL_law_1005 dL_law_1007 dL_law_1008 dL_law_1009 rfl rfl hS hi (j := 4) rfl (by decide) ?_
  refine y_cVi (st := [.int (iv x)]) (As := [.int (iv (S (i + 1))), .int (iv (S (i + 2))), .int (iv (S (i + 3))), .int (iv (S (i + 4)))]) (M1 := M2) (r := x) C dL_law_1010 mL_110 k2 (tX10_buy hC 57 (S (i + 1)) (S (i + 2)) (S (i + 3)) (S (i + 4)) (hS.2.1 _) (hS.2.1 _) (hS.2.1 _) (hS.2.1 _) h2) rfl rfl (Nat.le_of_ble_eq_true rfl) (by decide) (fun g2 => ?_)
  refine z_icmp_eq 1584 C dL_law_1013 (by decide) g1 g2 (fun _ => ?_) (fun h => absurd rfl h)
  exact y_widen (by omega) (by omega) kk
theorem lw_steal (hC : Cy G σ) (C : BxL G σ p R0 s m args meth c) (hS : Scr G σ a N S) (hi : i + 6 ≤ N) (k1 : Kd M 0 9) (k2 : Kd M1 57 10) (hk : k + 25 ≤ 601024) (hn : n + 9146 ≤ 7293034) (h1 : uX9_steal 0 (S (i + 1)) (S (i + 2)) M = some (x, M1)) (h2 : uX10_steal 57 (S (i + 1)) (S (i + 2)) M1 = some (x, M2)) (kk : Jz G σ p l e R0 s m args below meth c 7 601024 7293034 Q M2 (k + 25) (n + 9146) 1584 (LV G a i) []) : Jz G σ p l e R0 s m args below meth c 7 601024 7293034 Q M k n 1018 (LV G a i) [] := by
  refine z_aload_n C dL_law_1018 1 rfl ?_
  refine x_arg C dL_law_1019 dL_law_1020 dL_law_1022 dL_law_1023 dL_law_1024 rfl rfl hS hi (j := 1) rfl (by decide) ?_
  refine x_arg C dL_law_1025 dL_law_1026 dL_law_1028 dL_law_1029 dL_law_1030 rfl rfl hS hi (j := 2) rfl (by decide) ?_
  refine y_cVba (st := []) (As := [.int (iv (S (i + 1))), .int (iv (S (i + 2)))]) (M1 := M1) (r := x) C dL_law_1031 mL_111 k1 (tX9_steal hC 0 (S (i + 1)) (S (i + 2)) (hS.2.1 _) (hS.2.1 _) h1) rfl rfl (Nat.le_of_ble_eq_true rfl) (by decide) (fun g1 => ?_)
  refine z_aload_n C dL_law_1034 2 rfl ?_
  refine x_arg C dL_law_1035 dL_law_1036 dL_law_1038 dL_law_1039 dL_law_1040 rfl rfl hS hi (j := 1) rfl (by decide) ?_
  refine x_arg C dL_law_1041 dL_law_1042 dL_law_1044 dL_law_1045 dL_law_1046 rfl rfl hS hi (j := 2) rfl (by decide) ?_
  refine y_cVb (st := [.int (iv x)]) (As := [.int (iv (S (i + 1))), .int (iv (S (i + 2)))]) (M1 := M2) (r := x) C dL_law_1047 mL_115 k2 (tX10_steal hC 57 (S (i + 1)) (S (i + 2)) (hS.2.1 _) (hS.2.1 _) h2) rfl rfl (Nat.le_of_ble_eq_true rfl) (by decide) (fun g2 => ?_)
  refine z_icmp_eq 1584 C dL_law_1050 (by decide) (rg01 g1) (rg01 g2) (fun _ => ?_) (fun h => absurd rfl h)
  exact y_widen (by omega) (by omega) kk
theorem lw_forge (hC : Cy G σ) (C : BxL G σ p R0 s m args meth c) (hS : Scr G σ a N S) (hi : i + 6 ≤ N) (k1 : Kd M 0 9) (k2 : Kd M1 57 10) (hk : k + 25 ≤ 601024) (hn : n + 9146 ≤ 7293034) (h1 : uX9_forge 0 (S (i + 1)) (S (i + 2)) M = some (x, M1)) (h2 : uX10_forge 57 (S (i + 1)) (S (i + 2)) M1 = some (x, M2)) (kk : Jz G σ p l e R0 s m args below meth c 7 601024 7293034 Q M2 (k + 25) (n + 9146) 1584 (LV G a i) []) : Jz G σ p l e R0 s m args below meth c 7 601024 7293034 Q M k n 1055 (LV G a i) [] := by
  refine z_aload_n C dL_law_1055 1 rfl ?_
  refine x_arg C dL_law_1056 dL_law_1057 dL_law_1059 dL_law_1060 dL_law_1061 rfl rfl hS hi (j := 1) rfl (by decide) ?_
  refine x_arg C dL_law_1062 dL_law_1063 dL_law_1065 dL_law_1066 dL_law_1067 rfl rfl hS hi (j := 2) rfl (by decide) ?_
  refine y_cVia (st := []) (As := [.int (iv (S (i + 1))), .int (iv (S (i + 2)))]) (M1 := M1) (r := x) C dL_law_1068 mL_116 k1 (tX9_forge hC 0 (S (i + 1)) (S (i + 2)) (hS.2.1 _) (hS.2.1 _) h1) rfl rfl (Nat.le_of_ble_eq_true rfl) (by decide) (fun g1 => ?_)
  refine z_aload_n C dL_law_1071 2 rfl ?_
  refine x_arg C dL_law_1072 dL_law_1073 dL_law_1075 dL_law_1076 dL_law_1077 rfl rfl hS hi (j := 1) rfl (by decide) ?_
  refine x_arg C dL_law_1078 dL_law_1079 dL_law_1081 dL_law_1082 dL_law_1083 rfl rfl hS hi (j := 2) rfl (by decide) ?_
  refine y_cVi (st := [.int (iv x)]) (As := [.int (iv (S (i + 1))), .int (iv (S (i + 2)))]) (M1 := M2) (r := x) C dL_law_1084 mL_119 k2 (tX10_forge hC 57 (S (i + 1)) (S (i + 2)) (hS.2.1 _) (hS.2.1 _) h2) rfl rfl (Nat.le_of_ble_eq_true rfl) (by decide) (fun g2 => ?_)
  refine z_icmp_eq 1584 C dL_law_1087 (by decide) g1 g2 (fun _ => ?_) (fun h => absurd rfl h)
  exact y_widen (by omega) (by omega) kk
theorem lw_day (hC : Cy G σ) (C : BxL G σ p R0 s m args meth c) (hS : Scr G σ a N S) (hi : i + 6 ≤ N) (k1 : Kd M 0 9) (k2 : Kd M1 57 10) (hk : k + 25 ≤ 601024) (hn : n + 9146 ≤ 7293034) (h1 : uX9_day 0  M = some (x, M1)) (h2 : uX10_day 57  M1 = some (x, M2)) (kk : Jz G σ p l e R0 s m args below meth c 7 601024 7293034 Q M2 (k + 25) (n + 9146) 1584 (LV G a i) []) : Jz G σ p l e R0 s m args below meth c 7 601024 7293034 Q M k n 1092 (LV G a i) [] := by
  refine z_aload_n C dL_law_1092 1 rfl ?_
  refine y_cVia (st := []) (As := []) (M1 := M1) (r := x) C dL_law_1093 mL_120 k1 (tX9_day hC 0   h1) rfl rfl (Nat.le_of_ble_eq_true rfl) (by decide) (fun g1 => ?_)
  refine z_aload_n C dL_law_1096 2 rfl ?_
  refine y_cVi (st := [.int (iv x)]) (As := []) (M1 := M2) (r := x) C dL_law_1097 mL_123 k2 (tX10_day hC 57   h2) rfl rfl (Nat.le_of_ble_eq_true rfl) (by decide) (fun g2 => ?_)
  refine z_icmp_eq 1584 C dL_law_1100 (by decide) g1 g2 (fun _ => ?_) (fun h => absurd rfl h)
  exact y_widen (by omega) (by omega) kk
theorem lw_rob (hC : Cy G σ) (C : BxL G σ p R0 s m args meth c) (hS : Scr G σ a N S) (hi : i + 6 ≤ N) (k1 : Kd M 0 9) (k2 : Kd M1 57 10) (hk : k + 25 ≤ 601024) (hn : n + 9146 ≤ 7293034) (h1 : uX9_rob 0 (S (i + 1)) (S (i + 2)) M = some (x, M1)) (h2 : uX10_rob 57 (S (i + 1)) (S (i + 2)) M1 = some (x, M2)) (kk : Jz G σ p l e R0 s m args below meth c 7 601024 7293034 Q M2 (k + 25) (n + 9146) 1584 (LV G a i) []) : Jz G σ p l e R0 s m args below meth c 7 601024 7293034 Q M k n 1105 (LV G a i) [] := by
  refine z_aload_n C dL_law_1105 1 rfl ?_
  refine x_arg C dL_law_1106 dL_law_1107 dL_law_1109 dL_law_1110 dL_law_1111 rfl rfl hS hi (j := 1) rfl (by decide) ?_
  refine x_arg C dL_law_1112 dL_law_1113 dL_law_1115 dL_law_1116 dL_law_1117 rfl rfl hS hi (j := 2) rfl (by decide) ?_
  refine y_cVba (st := []) (As := [.int (iv (S (i + 1))), .int (iv (S (i + 2)))]) (M1 := M1) (r := x) C dL_law_1118 mL_124 k1 (tX9_rob hC 0 (S (i + 1)) (S (i + 2)) (hS.2.1 _) (hS.2.1 _) h1) rfl rfl (Nat.le_of_ble_eq_true rfl) (by decide) (fun g1 => ?_)
  refine z_aload_n C dL_law_1121 2 rfl ?_
  refine x_arg C dL_law_1122 dL_law_1123 dL_law_1125 dL_law_1126 dL_law_1127 rfl rfl hS hi (j := 1) rfl (by decide) ?_
  refine x_arg C dL_law_1128 dL_law_1129 dL_law_1131 dL_law_1132 dL_law_1133 rfl rfl hS hi (j := 2) rfl (by decide) ?_
  refine y_cVb (st := [.int (iv x)]) (As := [.int (iv (S (i + 1))), .int (iv (S (i + 2)))]) (M1 := M2) (r := x) C dL_law_1134 mL_127 k2 (tX10_rob hC 57 (S (i + 1)) (S (i + 2)) (hS.2.1 _) (hS.2.1 _) h2) rfl rfl (Nat.le_of_ble_eq_true rfl) (by decide) (fun g2 => ?_)
  refine z_icmp_eq 1584 C dL_law_1137 (by decide) (rg01 g1) (rg01 g2) (fun _ => ?_) (fun h => absurd rfl h)
  exact y_widen (by omega) (by omega) kk
theorem lw_dies (hC : Cy G σ) (C : BxL G σ p R0 s m args meth c) (hS : Scr G σ a N S) (hi : i + 6 ≤ N) (k1 : Kd M 0 9) (k2 : Kd M1 57 10) (hk : k + 25 ≤ 601024) (hn : n + 9146 ≤ 7293034) (h1 : uX9_dies 0 (S (i + 1)) (S (i + 2)) M = some (x, M1)) (h2 : uX10_dies 57 (S (i + 1)) (S (i + 2)) M1 = some (x, M2)) (kk : Jz G σ p l e R0 s m args below meth c 7 601024 7293034 Q M2 (k + 25) (n + 9146) 1584 (LV G a i) []) : Jz G σ p l e R0 s m args below meth c 7 601024 7293034 Q M k n 1142 (LV G a i) [] := by
  refine z_aload_n C dL_law_1142 1 rfl ?_
  refine x_arg C dL_law_1143 dL_law_1144 dL_law_1146 dL_law_1147 dL_law_1148 rfl rfl hS hi (j := 1) rfl (by decide) ?_
  refine x_arg C dL_law_1149 dL_law_1150 dL_law_1152 dL_law_1153 dL_law_1154 rfl rfl hS hi (j := 2) rfl (by decide) ?_
  refine y_cVia (st := []) (As := [.int (iv (S (i + 1))), .int (iv (S (i + 2)))]) (M1 := M1) (r := x) C dL_law_1155 mL_128 k1 (tX9_dies hC 0 (S (i + 1)) (S (i + 2)) (hS.2.1 _) (hS.2.1 _) h1) rfl rfl (Nat.le_of_ble_eq_true rfl) (by decide) (fun g1 => ?_)
  refine z_aload_n C dL_law_1158 2 rfl ?_
  refine x_arg C dL_law_1159 dL_law_1160 dL_law_1162 dL_law_1163 dL_law_1164 rfl rfl hS hi (j := 1) rfl (by decide) ?_
  refine x_arg C dL_law_1165 dL_law_1166 dL_law_1168 dL_law_1169 dL_law_1170 rfl rfl hS hi (j := 2) rfl (by decide) ?_
  refine y_cVi (st := [.int (iv x)]) (As := [.int (iv (S (i + 1))), .int (iv (S (i + 2)))]) (M1 := M2) (r := x) C dL_law_1171 mL_131 k2 (tX10_dies hC 57 (S (i + 1)) (S (i + 2)) (hS.2.1 _) (hS.2.1 _) h2) rfl rfl (Nat.le_of_ble_eq_true rfl) (by decide) (fun g2 => ?_)
  refine z_icmp_eq 1584 C dL_law_1174 (by decide) g1 g2 (fun _ => ?_) (fun h => absurd rfl h)
  exact y_widen (by omega) (by omega) kk
theorem lw_close (hC : Cy G σ) (C : BxL G σ p R0 s m args meth c) (hS : Scr G σ a N S) (hi : i + 6 ≤ N) (k1 : Kd M 0 9) (k2 : Kd M1 57 10) (hk : k + 25 ≤ 601024) (hn : n + 9146 ≤ 7293034) (h1 : uX9_close 0 (S (i + 1)) M = some (x, M1)) (h2 : uX10_close 57 (S (i + 1)) M1 = some (x, M2)) (kk : Jz G σ p l e R0 s m args below meth c 7 601024 7293034 Q M2 (k + 25) (n + 9146) 1584 (LV G a i) []) : Jz G σ p l e R0 s m args below meth c 7 601024 7293034 Q M k n 1179 (LV G a i) [] := by
  refine z_aload_n C dL_law_1179 1 rfl ?_
  refine x_arg C dL_law_1180 dL_law_1181 dL_law_1183 dL_law_1184 dL_law_1185 rfl rfl hS hi (j := 1) rfl (by decide) ?_
  refine y_cVba (st := []) (As := [.int (iv (S (i + 1)))]) (M1 := M1) (r := x) C dL_law_1186 mL_132 k1 (tX9_close hC 0 (S (i + 1)) (hS.2.1 _) h1) rfl rfl (Nat.le_of_ble_eq_true rfl) (by decide) (fun g1 => ?_)
  refine z_aload_n C dL_law_1189 2 rfl ?_
  refine x_arg C dL_law_1190 dL_law_1191 dL_law_1193 dL_law_1194 dL_law_1195 rfl rfl hS hi (j := 1) rfl (by decide) ?_
  refine y_cVb (st := [.int (iv x)]) (As := [.int (iv (S (i + 1)))]) (M1 := M2) (r := x) C dL_law_1196 mL_135 k2 (tX10_close hC 57 (S (i + 1)) (hS.2.1 _) h2) rfl rfl (Nat.le_of_ble_eq_true rfl) (by decide) (fun g2 => ?_)
  refine z_icmp_eq 1584 C dL_law_1199 (by decide) (rg01 g1) (rg01 g2) (fun _ => ?_) (fun h => absurd rfl h)
  exact y_widen (by omega) (by omega) kk
theorem lw_strokes (hC : Cy G σ) (C : BxL G σ p R0 s m args meth c) (hS : Scr G σ a N S) (hi : i + 6 ≤ N) (k1 : Kd M 0 9) (k2 : Kd M 57 10) (hk : k + 25 ≤ 601024) (hn : n + 9146 ≤ 7293034) (h1 : uX9_strokes 0  M = some x) (h2 : uX10_strokes 57  M = some (x, M2)) (kk : Jz G σ p l e R0 s m args below meth c 7 601024 7293034 Q M2 (k + 25) (n + 9146) 1584 (LV G a i) []) : Jz G σ p l e R0 s m args below meth c 7 601024 7293034 Q M k n 1204 (LV G a i) [] := by
  refine z_aload_n C dL_law_1204 1 rfl ?_
  refine y_cVi (st := []) (As := []) (M1 := M) (r := x) C dL_law_1205 mL_136 k1 (tX9_strokes hC 0   h1) rfl rfl (Nat.le_of_ble_eq_true rfl) (by decide) (fun g1 => ?_)
  refine z_aload_n C dL_law_1208 2 rfl ?_
  refine y_cVi (st := [.int (iv x)]) (As := []) (M1 := M2) (r := x) C dL_law_1209 mL_139 k2 (tX10_strokes hC 57   h2) rfl rfl (Nat.le_of_ble_eq_true rfl) (by decide) (fun g2 => ?_)
  refine z_icmp_eq 1584 C dL_law_1212 (by decide) g1 g2 (fun _ => ?_) (fun h => absurd rfl h)
  exact y_widen (by omega) (by omega) kk
end LAW
