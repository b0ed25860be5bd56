def lx_tenant (a1 a2 a3 : Int32) (S : sx_T) : Option (Int32 × sx_T) := fx_X11_tenant a1 a2 a3 S
def lm_tenant (a1 a2 a3 : Int32) (M : sm_T) : Option (Int32 × sm_T) := fx_X12_tenant a1 a2 a3 M
def lq_tenant (R : sx_T → sm_T → Prop) : Prop := ∀ (S : sx_T) (M : sm_T), R S M → ∀ a1 a2 a3 : Int32, ∃ r S' M', lx_tenant a1 a2 a3 S = some (r, S') ∧ lm_tenant a1 a2 a3 M = some (r, M') ∧ R S' M'
set_option maxHeartbeats 100000 in
theorem lk_tenant {L : Nat} {xs : Nat → Int32} {n : Nat} (hn : n + 7 ≤ L) (hL : L ≤ 3584) {S S' : sx_T} {M M' : sm_T} {r : Int32} (h1 : lx_tenant (xs (n + 1)) (xs (n + 2)) (xs (n + 3)) S = some (r, S')) (h2 : lm_tenant (xs (n + 1)) (xs (n + 2)) (xs (n + 3)) M = some (r, M'))
    (kk : am_G mL_law (lw_g L xs) lw_kn 1627 [some (.ref 1050), some (.ref 0), some (.ref 45), some (.int (nI n))] [] (sx_w S' (sm_w M'))) : am_G mL_law (lw_g L xs) lw_kn 884 [some (.ref 1050), some (.ref 0), some (.ref 45), some (.int (nI n))] [] (sx_w S (sm_w M)) := by
  have h1p : fx_X11_tenant (xs (n + 1)) (xs (n + 2)) (xs (n + 3)) S = some (r, S') := h1
  have h2p : fx_X12_tenant (xs (n + 1)) (xs (n + 2)) (xs (n + 3)) M = some (r, M') := h2
  refine am_aload_n (pc' := 885) 1 dL_law_884 rfl rfl rfl ?_
  refine am_aload_n (pc' := 886) 0 dL_law_885 rfl rfl rfl ?_
  refine am_iload_n (pc' := 887) 3 dL_law_886 rfl rfl rfl ?_
  refine am_iconst (pc' := 888) (v := 1) dL_law_887 kc_1 rfl ?_
  refine am_iadd (pc' := 889) dL_law_888 rfl ?_
  refine lw_ld (pc' := 890) (n + 1) (lw_j1 n) (by omega) hL dL_law_889 rfl ?_
  refine am_aload_n (pc' := 891) 0 dL_law_890 rfl rfl rfl ?_
  refine am_iload_n (pc' := 892) 3 dL_law_891 rfl rfl rfl ?_
  refine am_iconst (pc' := 893) (v := 2) dL_law_892 kc_2 rfl ?_
  refine am_iadd (pc' := 894) dL_law_893 rfl ?_
  refine lw_ld (pc' := 895) (n + 2) (lw_j2 n) (by omega) hL dL_law_894 rfl ?_
  refine am_aload_n (pc' := 896) 0 dL_law_895 rfl rfl rfl ?_
  refine am_iload_n (pc' := 897) 3 dL_law_896 rfl rfl rfl ?_
  refine am_iconst (pc' := 898) (v := 3) dL_law_897 kc_3 rfl ?_
  refine am_iadd (pc' := 899) dL_law_898 rfl ?_
  refine lw_ld (pc' := 900) (n + 3) (lw_j3 n) (by omega) hL dL_law_899 rfl ?_
  refine lw_call (pc' := 903) (w1 := (sx_w S' (sm_w M))) (v := .int r) [] [.int (xs (n + 1)), .int (xs (n + 2)), .int (xs (n + 3))] dL_law_900 cs_L_91 (tx_X11_tenant (sm_w M) (xs (n + 1)) (xs (n + 2)) (xs (n + 3)) S (r, S') h1p) rfl rfl rfl rfl rfl (Nat.le_of_ble_eq_true rfl) rfl rfl rfl ?_
  refine am_aload_n (pc' := 904) 2 dL_law_903 rfl rfl rfl ?_
  refine am_aload_n (pc' := 905) 0 dL_law_904 rfl rfl rfl ?_
  refine am_iload_n (pc' := 906) 3 dL_law_905 rfl rfl rfl ?_
  refine am_iconst (pc' := 907) (v := 1) dL_law_906 kc_1 rfl ?_
  refine am_iadd (pc' := 908) dL_law_907 rfl ?_
  refine lw_ld (pc' := 909) (n + 1) (lw_j1 n) (by omega) hL dL_law_908 rfl ?_
  refine am_aload_n (pc' := 910) 0 dL_law_909 rfl rfl rfl ?_
  refine am_iload_n (pc' := 911) 3 dL_law_910 rfl rfl rfl ?_
  refine am_iconst (pc' := 912) (v := 2) dL_law_911 kc_2 rfl ?_
  refine am_iadd (pc' := 913) dL_law_912 rfl ?_
  refine lw_ld (pc' := 914) (n + 2) (lw_j2 n) (by omega) hL dL_law_913 rfl ?_
  refine am_aload_n (pc' := 915) 0 dL_law_914 rfl rfl rfl ?_
  refine am_iload_n (pc' := 916) 3 dL_law_915 rfl rfl rfl ?_
  refine am_iconst (pc' := 917) (v := 3) dL_law_916 kc_3 rfl ?_
  refine am_iadd (pc' := 918) dL_law_917 rfl ?_
  refine lw_ld (pc' := 919) (n + 3) (lw_j3 n) (by omega) hL dL_law_918 rfl ?_
  refine lw_call (pc' := 922) (w1 := (sx_w S' (sm_w M'))) (v := .int r) [.int r] [.int (xs (n + 1)), .int (xs (n + 2)), .int (xs (n + 3))] dL_law_919 cs_L_94 (tx_X12_tenant S' (xs (n + 1)) (xs (n + 2)) (xs (n + 3)) M (r, M') h2p) rfl rfl rfl rfl rfl (Nat.le_of_ble_eq_true rfl) rfl rfl rfl ?_
  exact am_icmp_eq (pc' := 925) 1627 dL_law_922 rfl rfl (fun _ => kk) (fun h => absurd rfl h)
def lx_waits (a1 a2 a3 a4 : Int32) (S : sx_T) : Option (Int64 × sx_T) := fx_X11_waits a1 a2 a3 a4 S
def lm_waits (a1 a2 a3 a4 : Int32) (M : sm_T) : Option (Int64 × sm_T) := fx_X12_waits a1 a2 a3 a4 M
def lq_waits (R : sx_T → sm_T → Prop) : Prop := ∀ (S : sx_T) (M : sm_T), R S M → ∀ a1 a2 a3 a4 : Int32, ∃ r S' M', lx_waits a1 a2 a3 a4 S = some (r, S') ∧ lm_waits a1 a2 a3 a4 M = some (r, M') ∧ R S' M'
set_option maxHeartbeats 100000 in
theorem lk_waits {L : Nat} {xs : Nat → Int32} {n : Nat} (hn : n + 7 ≤ L) (hL : L ≤ 3584) {S S' : sx_T} {M M' : sm_T} {r : Int64} (h1 : lx_waits (xs (n + 1)) (xs (n + 2)) (xs (n + 3)) (xs (n + 4)) S = some (r, S')) (h2 : lm_waits (xs (n + 1)) (xs (n + 2)) (xs (n + 3)) (xs (n + 4)) M = some (r, M'))
    (kk : am_G mL_law (lw_g L xs) lw_kn 1627 [some (.ref 1050), some (.ref 0), some (.ref 45), some (.int (nI n))] [] (sx_w S' (sm_w M'))) : am_G mL_law (lw_g L xs) lw_kn 927 [some (.ref 1050), some (.ref 0), some (.ref 45), some (.int (nI n))] [] (sx_w S (sm_w M)) := by
  have h1p : fx_X11_waits (xs (n + 1)) (xs (n + 2)) (xs (n + 3)) (xs (n + 4)) S = some (r, S') := h1
  have h2p : fx_X12_waits (xs (n + 1)) (xs (n + 2)) (xs (n + 3)) (xs (n + 4)) M = some (r, M') := h2
  refine am_aload_n (pc' := 928) 1 dL_law_927 rfl rfl rfl ?_
  refine am_aload_n (pc' := 929) 0 dL_law_928 rfl rfl rfl ?_
  refine am_iload_n (pc' := 930) 3 dL_law_929 rfl rfl rfl ?_
  refine am_iconst (pc' := 931) (v := 1) dL_law_930 kc_1 rfl ?_
  refine am_iadd (pc' := 932) dL_law_931 rfl ?_
  refine lw_ld (pc' := 933) (n + 1) (lw_j1 n) (by omega) hL dL_law_932 rfl ?_
  refine am_aload_n (pc' := 934) 0 dL_law_933 rfl rfl rfl ?_
  refine am_iload_n (pc' := 935) 3 dL_law_934 rfl rfl rfl ?_
  refine am_iconst (pc' := 936) (v := 2) dL_law_935 kc_2 rfl ?_
  refine am_iadd (pc' := 937) dL_law_936 rfl ?_
  refine lw_ld (pc' := 938) (n + 2) (lw_j2 n) (by omega) hL dL_law_937 rfl ?_
  refine am_aload_n (pc' := 939) 0 dL_law_938 rfl rfl rfl ?_
  refine am_iload_n (pc' := 940) 3 dL_law_939 rfl rfl rfl ?_
  refine am_iconst (pc' := 941) (v := 3) dL_law_940 kc_3 rfl ?_
  refine am_iadd (pc' := 942) dL_law_941 rfl ?_
  refine lw_ld (pc' := 943) (n + 3) (lw_j3 n) (by omega) hL dL_law_942 rfl ?_
  refine am_aload_n (pc' := 944) 0 dL_law_943 rfl rfl rfl ?_
  refine am_iload_n (pc' := 945) 3 dL_law_944 rfl rfl rfl ?_
  refine am_iconst (pc' := 946) (v := 4) dL_law_945 kc_4 rfl ?_
  refine am_iadd (pc' := 947) dL_law_946 rfl ?_
  refine lw_ld (pc' := 948) (n + 4) (lw_j4 n) (by omega) hL dL_law_947 rfl ?_
  refine lw_call (pc' := 951) (w1 := (sx_w S' (sm_w M))) (v := .long r) [] [.int (xs (n + 1)), .int (xs (n + 2)), .int (xs (n + 3)), .int (xs (n + 4))] dL_law_948 cs_L_95 (tx_X11_waits (sm_w M) (xs (n + 1)) (xs (n + 2)) (xs (n + 3)) (xs (n + 4)) S (r, S') h1p) rfl rfl rfl rfl rfl (Nat.le_of_ble_eq_true rfl) rfl rfl rfl ?_
  refine am_aload_n (pc' := 952) 2 dL_law_951 rfl rfl rfl ?_
  refine am_aload_n (pc' := 953) 0 dL_law_952 rfl rfl rfl ?_
  refine am_iload_n (pc' := 954) 3 dL_law_953 rfl rfl rfl ?_
  refine am_iconst (pc' := 955) (v := 1) dL_law_954 kc_1 rfl ?_
  refine am_iadd (pc' := 956) dL_law_955 rfl ?_
  refine lw_ld (pc' := 957) (n + 1) (lw_j1 n) (by omega) hL dL_law_956 rfl ?_
  refine am_aload_n (pc' := 958) 0 dL_law_957 rfl rfl rfl ?_
  refine am_iload_n (pc' := 959) 3 dL_law_958 rfl rfl rfl ?_
  refine am_iconst (pc' := 960) (v := 2) dL_law_959 kc_2 rfl ?_
  refine am_iadd (pc' := 961) dL_law_960 rfl ?_
  refine lw_ld (pc' := 962) (n + 2) (lw_j2 n) (by omega) hL dL_law_961 rfl ?_
  refine am_aload_n (pc' := 963) 0 dL_law_962 rfl rfl rfl ?_
  refine am_iload_n (pc' := 964) 3 dL_law_963 rfl rfl rfl ?_
  refine am_iconst (pc' := 965) (v := 3) dL_law_964 kc_3 rfl ?_
  refine am_iadd (pc' := 966) dL_law_965 rfl ?_
  refine lw_ld (pc' := 967) (n + 3) (lw_j3 n) (by omega) hL dL_law_966 rfl ?_
  refine am_aload_n (pc' := 968) 0 dL_law_967 rfl rfl rfl ?_
  refine am_iload_n (pc' := 969) 3 dL_law_968 rfl rfl rfl ?_
  refine am_iconst (pc' := 970) (v := 4) dL_law_969 kc_4 rfl ?_
  refine am_iadd (pc' := 971) dL_law_970 rfl ?_
  refine lw_ld (pc' := 972) (n + 4) (lw_j4 n) (by omega) hL dL_law_971 rfl ?_
  refine lw_call (pc' := 975) (w1 := (sx_w S' (sm_w M'))) (v := .long r) [.long r] [.int (xs (n + 1)), .int (xs (n + 2)), .int (xs (n + 3)), .int (xs (n + 4))] dL_law_972 cs_L_99 (tx_X12_waits S' (xs (n + 1)) (xs (n + 2)) (xs (n + 3)) (xs (n + 4)) M (r, M') h2p) rfl rfl rfl rfl rfl (Nat.le_of_ble_eq_true rfl) rfl rfl rfl ?_
  refine am_lcmp (pc' := 976) dL_law_975 rfl ?_
  rw [lw_lcmp]
  exact am_if_eq (pc' := 979) 1627 dL_law_976 rfl rfl (fun _ => kk) (fun h => absurd rfl h)
def lx_judge (a1 a2 a3 : Int32) (S : sx_T) : Option (Int32 × sx_T) := fx_X11_judge a1 a2 a3 S
def lm_judge (a1 a2 a3 : Int32) (M : sm_T) : Option (Int32 × sm_T) := fx_X12_judge a1 a2 a3 M
def lq_judge (R : sx_T → sm_T → Prop) : Prop := ∀ (S : sx_T) (M : sm_T), R S M → ∀ a1 a2 a3 : Int32, ∃ r S' M', lx_judge a1 a2 a3 S = some (r, S') ∧ lm_judge a1 a2 a3 M = some (r, M') ∧ R S' M'
set_option maxHeartbeats 100000 in
theorem lk_judge {L : Nat} {xs : Nat → Int32} {n : Nat} (hn : n + 7 ≤ L) (hL : L ≤ 3584) {S S' : sx_T} {M M' : sm_T} {r : Int32} (h1 : lx_judge (xs (n + 1)) (xs (n + 2)) (xs (n + 3)) S = some (r, S')) (h2 : lm_judge (xs (n + 1)) (xs (n + 2)) (xs (n + 3)) M = some (r, M'))
    (kk : am_G mL_law (lw_g L xs) lw_kn 1627 [some (.ref 1050), some (.ref 0), some (.ref 45), some (.int (nI n))] [] (sx_w S' (sm_w M'))) : am_G mL_law (lw_g L xs) lw_kn 981 [some (.ref 1050), some (.ref 0), some (.ref 45), some (.int (nI n))] [] (sx_w S (sm_w M)) := by
  have h1p : fx_X11_judge (xs (n + 1)) (xs (n + 2)) (xs (n + 3)) S = some (r, S') := h1
  have h2p : fx_X12_judge (xs (n + 1)) (xs (n + 2)) (xs (n + 3)) M = some (r, M') := h2
  refine am_aload_n (pc' := 982) 1 dL_law_981 rfl rfl rfl ?_
  refine am_aload_n (pc' := 983) 0 dL_law_982 rfl rfl rfl ?_
  refine am_iload_n (pc' := 984) 3 dL_law_983 rfl rfl rfl ?_
  refine am_iconst (pc' := 985) (v := 1) dL_law_984 kc_1 rfl ?_
  refine am_iadd (pc' := 986) dL_law_985 rfl ?_
  refine lw_ld (pc' := 987) (n + 1) (lw_j1 n) (by omega) hL dL_law_986 rfl ?_
  refine am_aload_n (pc' := 988) 0 dL_law_987 rfl rfl rfl ?_
  refine am_iload_n (pc' := 989) 3 dL_law_988 rfl rfl rfl ?_
  refine am_iconst (pc' := 990) (v := 2) dL_law_989 kc_2 rfl ?_
  refine am_iadd (pc' := 991) dL_law_990 rfl ?_
  refine lw_ld (pc' := 992) (n + 2) (lw_j2 n) (by omega) hL dL_law_991 rfl ?_
  refine am_aload_n (pc' := 993) 0 dL_law_992 rfl rfl rfl ?_
  refine am_iload_n (pc' := 994) 3 dL_law_993 rfl rfl rfl ?_
  refine am_iconst (pc' := 995) (v := 3) dL_law_994 kc_3 rfl ?_
  refine am_iadd (pc' := 996) dL_law_995 rfl ?_
  refine lw_ld (pc' := 997) (n + 3) (lw_j3 n) (by omega) hL dL_law_996 rfl ?_
  refine lw_call (pc' := 1000) (w1 := (sx_w S' (sm_w M))) (v := .int r) [] [.int (xs (n + 1)), .int (xs (n + 2)), .int (xs (n + 3))] dL_law_997 cs_L_100 (tx_X11_judge (sm_w M) (xs (n + 1)) (xs (n + 2)) (xs (n + 3)) S (r, S') h1p) rfl rfl rfl rfl rfl (Nat.le_of_ble_eq_true rfl) rfl rfl rfl ?_
  refine am_aload_n (pc' := 1001) 2 dL_law_1000 rfl rfl rfl ?_
  refine am_aload_n (pc' := 1002) 0 dL_law_1001 rfl rfl rfl ?_
  refine am_iload_n (pc' := 1003) 3 dL_law_1002 rfl rfl rfl ?_
  refine am_iconst (pc' := 1004) (v := 1) dL_law_1003 kc_1 rfl ?_
  refine am_iadd (pc' := 1005) dL_law_1004 rfl ?_
  refine lw_ld (pc' := 1006) (n + 1) (lw_j1 n) (by omega) hL dL_law_1005 rfl ?_
  refine am_aload_n (pc' := 1007) 0 dL_law_1006 rfl rfl rfl ?_
  refine am_iload_n (pc' := 1008) 3 dL_law_1007 rfl rfl rfl ?_
  refine am_iconst (pc' := 1009) (v := 2) dL_law_1008 kc_2 rfl ?_
  refine am_iadd (pc' := 1010) dL_law_1009 rfl ?_
  refine lw_ld (pc' := 1011) (n + 2) (lw_j2 n) (by omega) hL dL_law_1010 rfl ?_
  refine am_aload_n (pc' := 1012) 0 dL_law_1011 rfl rfl rfl ?_
  refine am_iload_n (pc' := 1013) 3 dL_law_1012 rfl rfl rfl ?_
  refine am_iconst (pc' := 1014) (v := 3) dL_law_1013 kc_3 rfl ?_
  refine am_iadd (pc' := 1015) dL_law_1014 rfl ?_
  refine lw_ld (pc' := 1016) (n + 3) (lw_j3 n) (by omega) hL dL_law_1015 rfl ?_
  refine lw_call (pc' := 1019) (w1 := (sx_w S' (sm_w M'))) (v := .int r) [.int r] [.int (xs (n + 1)), .int (xs (n + 2)), .int (xs (n + 3))] dL_law_1016 cs_L_103 (tx_X12_judge S' (xs (n + 1)) (xs (n + 2)) (xs (n + 3)) M (r, M') h2p) rfl rfl rfl rfl rfl (Nat.le_of_ble_eq_true rfl) rfl rfl rfl ?_
  exact am_icmp_eq (pc' := 1022) 1627 dL_law_1019 rfl rfl (fun _ => kk) (fun h => absurd rfl h)
def lx_kinds (a1 a2 a3 a4 : Int32) (S : sx_T) : Option (Int32 × sx_T) := fx_X11_kinds a1 a2 a3 a4 S
def lm_kinds (a1 a2 a3 a4 : Int32) (M : sm_T) : Option (Int32 × sm_T) := fx_X12_kinds a1 a2 a3 a4 M
def lq_kinds (R : sx_T → sm_T → Prop) : Prop := ∀ (S : sx_T) (M : sm_T), R S M → ∀ a1 a2 a3 a4 : Int32, ∃ r S' M', lx_kinds a1 a2 a3 a4 S = some (r, S') ∧ lm_kinds a1 a2 a3 a4 M = some (r, M') ∧ R S' M'
set_option maxHeartbeats 100000 in
theorem lk_kinds {L : Nat} {xs : Nat → Int32} {n : Nat} (hn : n + 7 ≤ L) (hL : L ≤ 3584) {S S' : sx_T} {M M' : sm_T} {r : Int32} (h1 : lx_kinds (xs (n + 1)) (xs (n + 2)) (xs (n + 3)) (xs (n + 4)) S = some (r, S')) (h2 : lm_kinds (xs (n + 1)) (xs (n + 2)) (xs (n + 3)) (xs (n + 4)) M = some (r, M'))
    (kk : am_G mL_law (lw_g L xs) lw_kn 1627 [some (.ref 1050), some (.ref 0), some (.ref 45), some (.int (nI n))] [] (sx_w S' (sm_w M'))) : am_G mL_law (lw_g L xs) lw_kn 1024 [some (.ref 1050), some (.ref 0), some (.ref 45), some (.int (nI n))] [] (sx_w S (sm_w M)) := by
  have h1p : fx_X11_kinds (xs (n + 1)) (xs (n + 2)) (xs (n + 3)) (xs (n + 4)) S = some (r, S') := h1
  have h2p : fx_X12_kinds (xs (n + 1)) (xs (n + 2)) (xs (n + 3)) (xs (n + 4)) M = some (r, M') := h2
  refine am_aload_n (pc' := 1025) 1 dL_law_1024 rfl rfl rfl ?_
  refine am_aload_n (pc' := 1026) 0 dL_law_1025 rfl rfl rfl ?_
  refine am_iload_n (pc' := 1027) 3 dL_law_1026 rfl rfl rfl ?_
  refine am_iconst (pc' := 1028) (v := 1) dL_law_1027 kc_1 rfl ?_
  refine am_iadd (pc' := 1029) dL_law_1028 rfl ?_
  refine lw_ld (pc' := 1030) (n + 1) (lw_j1 n) (by omega) hL dL_law_1029 rfl ?_
  refine am_aload_n (pc' := 1031) 0 dL_law_1030 rfl rfl rfl ?_
  refine am_iload_n (pc' := 1032) 3 dL_law_1031 rfl rfl rfl ?_
  refine am_iconst (pc' := 1033) (v := 2) dL_law_1032 kc_2 rfl ?_
  refine am_iadd (pc' := 1034) dL_law_1033 rfl ?_
  refine lw_ld (pc' := 1035) (n + 2) (lw_j2 n) (by omega) hL dL_law_1034 rfl ?_
  refine am_aload_n (pc' := 1036) 0 dL_law_1035 rfl rfl rfl ?_
  refine am_iload_n (pc' := 1037) 3 dL_law_1036 rfl rfl rfl ?_
  refine am_iconst (pc' := 1038) (v := 3) dL_law_1037 kc_3 rfl ?_
  refine am_iadd (pc' := 1039) dL_law_1038 rfl ?_
  refine lw_ld (pc' := 1040) (n + 3) (lw_j3 n) (by omega) hL dL_law_1039 rfl ?_
  refine am_aload_n (pc' := 1041) 0 dL_law_1040 rfl rfl rfl ?_
  refine am_iload_n (pc' := 1042) 3 dL_law_1041 rfl rfl rfl ?_
  refine am_iconst (pc' := 1043) (v := 4) dL_law_1042 kc_4 rfl ?_
  refine am_iadd (pc' := 1044) dL_law_1043 rfl ?_
  refine lw_ld (pc' := 1045) (n + 4) (lw_j4 n) (by omega) hL dL_law_1044 rfl ?_
  refine lw_call (pc' := 1048) (w1 := (sx_w S' (sm_w M))) (v := .int r) [] [.int (xs (n + 1)), .int (xs (n + 2)), .int (xs (n + 3)), .int (xs (n + 4))] dL_law_1045 cs_L_104 (tx_X11_kinds (sm_w M) (xs (n + 1)) (xs (n + 2)) (xs (n + 3)) (xs (n + 4)) S (r, S') h1p) rfl rfl rfl rfl rfl (Nat.le_of_ble_eq_true rfl) rfl rfl rfl ?_
  refine am_aload_n (pc' := 1049) 2 dL_law_1048 rfl rfl rfl ?_
  refine am_aload_n (pc' := 1050) 0 dL_law_1049 rfl rfl rfl ?_
  refine am_iload_n (pc' := 1051) 3 dL_law_1050 rfl rfl rfl ?_
  refine am_iconst (pc' := 1052) (v := 1) dL_law_1051 kc_1 rfl ?_
  refine am_iadd (pc' := 1053) dL_law_1052 rfl ?_
  refine lw_ld (pc' := 1054) (n + 1) (lw_j1 n) (by omega) hL dL_law_1053 rfl ?_
  refine am_aload_n (pc' := 1055) 0 dL_law_1054 rfl rfl rfl ?_
  refine am_iload_n (pc' := 1056) 3 dL_law_1055 rfl rfl rfl ?_
  refine am_iconst (pc' := 1057) (v := 2) dL_law_1056 kc_2 rfl ?_
  refine am_iadd (pc' := 1058) dL_law_1057 rfl ?_
  refine lw_ld (pc' := 1059) (n + 2) (lw_j2 n) (by omega) hL dL_law_1058 rfl ?_
  refine am_aload_n (pc' := 1060) 0 dL_law_1059 rfl rfl rfl ?_
  refine am_iload_n (pc' := 1061) 3 dL_law_1060 rfl rfl rfl ?_
  refine am_iconst (pc' := 1062) (v := 3) dL_law_1061 kc_3 rfl ?_
  refine am_iadd (pc' := 1063) dL_law_1062 rfl ?_
  refine lw_ld (pc' := 1064) (n + 3) (lw_j3 n) (by omega) hL dL_law_1063 rfl ?_
  refine am_aload_n (pc' := 1065) 0 dL_law_1064 rfl rfl rfl ?_
  refine am_iload_n (pc' := 1066) 3 dL_law_1065 rfl rfl rfl ?_
  refine am_iconst (pc' := 1067) (v := 4) dL_law_1066 kc_4 rfl ?_
  refine am_iadd (pc' := 1068) dL_law_1067 rfl ?_
  refine lw_ld (pc' := 1069) (n + 4) (lw_j4 n) (by omega) hL dL_law_1068 rfl ?_
  refine lw_call (pc' := 1072) (w1 := (sx_w S' (sm_w M'))) (v := .int r) [.int r] [.int (xs (n + 1)), .int (xs (n + 2)), .int (xs (n + 3)), .int (xs (n + 4))] dL_law_1069 cs_L_107 (tx_X12_kinds S' (xs (n + 1)) (xs (n + 2)) (xs (n + 3)) (xs (n + 4)) M (r, M') h2p) rfl rfl rfl rfl rfl (Nat.le_of_ble_eq_true rfl) rfl rfl rfl ?_
  exact am_icmp_eq (pc' := 1075) 1627 dL_law_1072 rfl rfl (fun _ => kk) (fun h => absurd rfl h)
def lx_riches (a1 a2 a3 a4 : Int32) (S : sx_T) : Option (Int32 × sx_T) := fx_X11_riches a1 a2 a3 a4 S
def lm_riches (a1 a2 a3 a4 : Int32) (M : sm_T) : Option (Int32 × sm_T) := fx_X12_riches a1 a2 a3 a4 M
def lq_riches (R : sx_T → sm_T → Prop) : Prop := ∀ (S : sx_T) (M : sm_T), R S M → ∀ a1 a2 a3 a4 : Int32, ∃ r S' M', lx_riches a1 a2 a3 a4 S = some (r, S') ∧ lm_riches a1 a2 a3 a4 M = some (r, M') ∧ R S' M'
set_option maxHeartbeats 100000 in
theorem lk_riches {L : Nat} {xs : Nat → Int32} {n : Nat} (hn : n + 7 ≤ L) (hL : L ≤ 3584) {S S' : sx_T} {M M' : sm_T} {r : Int32} (h1 : lx_riches (xs (n + 1)) (xs (n + 2)) (xs (n + 3)) (xs (n + 4)) S = some (r, S')) (h2 : lm_riches (xs (n + 1)) (xs (n + 2)) (xs (n + 3)) (xs (n + 4)) M = some (r, M'))
    (kk : am_G mL_law (lw_g L xs) lw_kn 1627 [some (.ref 1050), some (.ref 0), some (.ref 45), some (.int (nI n))] [] (sx_w S' (sm_w M'))) : am_G mL_law (lw_g L xs) lw_kn 1077 [some (.ref 1050), some (.ref 0), some (.ref 45), some (.int (nI n))] [] (sx_w S (sm_w M)) := by
  have h1p : fx_X11_riches (xs (n + 1)) (xs (n + 2)) (xs (n + 3)) (xs (n + 4)) S = some (r, S') := h1
  have h2p : fx_X12_riches (xs (n + 1)) (xs (n + 2)) (xs (n + 3)) (xs (n + 4)) M = some (r, M') := h2
  refine am_aload_n (pc' := 1078) 1 dL_law_1077 rfl rfl rfl ?_
  refine am_aload_n (pc' := 1079) 0 dL_law_1078 rfl rfl rfl ?_
  refine am_iload_n (pc' := 1080) 3 dL_law_1079 rfl rfl rfl ?_
  refine am_iconst (pc' := 1081) (v := 1) dL_law_1080 kc_1 rfl ?_
  refine am_iadd (pc' := 1082) dL_law_1081 rfl ?_
  refine lw_ld (pc' := 1083) (n + 1) (lw_j1 n) (by omega) hL dL_law_1082 rfl ?_
  refine am_aload_n (pc' := 1084) 0 dL_law_1083 rfl rfl rfl ?_
  refine am_iload_n (pc' := 1085) 3 dL_law_1084 rfl rfl rfl ?_
  refine am_iconst (pc' := 1086) (v := 2) dL_law_1085 kc_2 rfl ?_
  refine am_iadd (pc' := 1087) dL_law_1086 rfl ?_
  refine lw_ld (pc' := 1088) (n + 2) (lw_j2 n) (by omega) hL dL_law_1087 rfl ?_
  refine am_aload_n (pc' := 1089) 0 dL_law_1088 rfl rfl rfl ?_
  refine am_iload_n (pc' := 1090) 3 dL_law_1089 rfl rfl rfl ?_
  refine am_iconst (pc' := 1091) (v := 3) dL_law_1090 kc_3 rfl ?_
  refine am_iadd (pc' := 1092) dL_law_1091 rfl ?_
  refine lw_ld (pc' := 1093) (n + 3) (lw_j3 n) (by omega) hL dL_law_1092 rfl ?_
  refine am_aload_n (pc' := 1094) 0 dL_law_1093 rfl rfl rfl ?_
  refine am_iload_n (pc' := 1095) 3 dL_law_1094 rfl rfl rfl ?_
  refine am_iconst (pc' := 1096) (v := 4) dL_law_1095 kc_4 rfl ?_
  refine am_iadd (pc' := 1097) dL_law_1096 rfl ?_
  refine lw_ld (pc' := 1098) (n + 4) (lw_j4 n) (by omega) hL dL_law_1097 rfl ?_
  refine lw_call (pc' := 1101) (w1 := (sx_w S' (sm_w M))) (v := .int r) [] [.int (xs (n + 1)), .int (xs (n + 2)), .int (xs (n + 3)), .int (xs (n + 4))] dL_law_1098 cs_L_108 (tx_X11_riches (sm_w M) (xs (n + 1)) (xs (n + 2)) (xs (n + 3)) (xs (n + 4)) S (r, S') h1p) rfl rfl rfl rfl rfl (Nat.le_of_ble_eq_true rfl) rfl rfl rfl ?_
  refine am_aload_n (pc' := 1102) 2 dL_law_1101 rfl rfl rfl ?_
  refine am_aload_n (pc' := 1103) 0 dL_law_1102 rfl rfl rfl ?_
  refine am_iload_n (pc' := 1104) 3 dL_law_1103 rfl rfl rfl ?_
  refine am_iconst (pc' := 1105) (v := 1) dL_law_1104 kc_1 rfl ?_
  refine am_iadd (pc' := 1106) dL_law_1105 rfl ?_
  refine lw_ld (pc' := 1107) (n + 1) (lw_j1 n) (by omega) hL dL_law_1106 rfl ?_
  refine am_aload_n (pc' := 1108) 0 dL_law_1107 rfl rfl rfl ?_
  refine am_iload_n (pc' := 1109) 3 dL_law_1108 rfl rfl rfl ?_
  refine am_iconst (pc' := 1110) (v := 2) dL_law_1109 kc_2 rfl ?_
  refine am_iadd (pc' := 1111) dL_law_1110 rfl ?_
  refine lw_ld (pc' := 1112) (n + 2) (lw_j2 n) (by omega) hL dL_law_1111 rfl ?_
  refine am_aload_n (pc' := 1113) 0 dL_law_1112 rfl rfl rfl ?_
  refine am_iload_n (pc' := 1114) 3 dL_law_1113 rfl rfl rfl ?_
  refine am_iconst (pc' := 1115) (v := 3) dL_law_1114 kc_3 rfl ?_
  refine am_iadd (pc' := 1116) dL_law_1115 rfl ?_
  refine lw_ld (pc' := 1117) (n + 3) (lw_j3 n) (by omega) hL dL_law_1116 rfl ?_
  refine am_aload_n (pc' := 1118) 0 dL_law_1117 rfl rfl rfl ?_
  refine am_iload_n (pc' := 1119) 3 dL_law_1118 rfl rfl rfl ?_
  refine am_iconst (pc' := 1120) (v := 4) dL_law_1119 kc_4 rfl ?_
  refine am_iadd (pc' := 1121) dL_law_1120 rfl ?_
  refine lw_ld (pc' := 1122) (n + 4) (lw_j4 n) (by omega) hL dL_law_1121 rfl ?_
  refine lw_call (pc' := 1125) (w1 := (sx_w S' (sm_w M'))) (v := .int r) [.int r] [.int (xs (n + 1)), .int (xs (n + 2)), .int (xs (n + 3)), .int (xs (n + 4))] dL_law_1122 cs_L_111 (tx_X12_riches S' (xs (n + 1)) (xs (n + 2)) (xs (n + 3)) (xs (n + 4)) M (r, M') h2p) rfl rfl rfl rfl rfl (Nat.le_of_ble_eq_true rfl) rfl rfl rfl ?_
  exact am_icmp_eq (pc' := 1128) 1627 dL_law_1125 rfl rfl (fun _ => kk) (fun h => absurd rfl h)
def lx_rooms (a1 a2 a3 a4 : Int32) (S : sx_T) : Option (Int32 × sx_T) := fx_X11_rooms a1 a2 a3 a4 S
def lm_rooms (a1 a2 a3 a4 : Int32) (M : sm_T) : Option (Int32 × sm_T) := fx_X12_rooms a1 a2 a3 a4 M
def lq_rooms (R : sx_T → sm_T → Prop) : Prop := ∀ (S : sx_T) (M : sm_T), R S M → ∀ a1 a2 a3 a4 : Int32, ∃ r S' M', lx_rooms a1 a2 a3 a4 S = some (r, S') ∧ lm_rooms a1 a2 a3 a4 M = some (r, M') ∧ R S' M'
set_option maxHeartbeats 100000 in
theorem lk_rooms {L : Nat} {xs : Nat → Int32} {n : Nat} (hn : n + 7 ≤ L) (hL : L ≤ 3584) {S S' : sx_T} {M M' : sm_T} {r : Int32} (h1 : lx_rooms (xs (n + 1)) (xs (n + 2)) (xs (n + 3)) (xs (n + 4)) S = some (r, S')) (h2 : lm_rooms (xs (n + 1)) (xs (n + 2)) (xs (n + 3)) (xs (n + 4)) M = some (r, M'))
    (kk : am_G mL_law (lw_g L xs) lw_kn 1627 [some (.ref 1050), some (.ref 0), some (.ref 45), some (.int (nI n))] [] (sx_w S' (sm_w M'))) : am_G mL_law (lw_g L xs) lw_kn 1130 [some (.ref 1050), some (.ref 0), some (.ref 45), some (.int (nI n))] [] (sx_w S (sm_w M)) := by
  have h1p : fx_X11_rooms (xs (n + 1)) (xs (n + 2)) (xs (n + 3)) (xs (n + 4)) S = some (r, S') := h1
  have h2p : fx_X12_rooms (xs (n + 1)) (xs (n + 2)) (xs (n + 3)) (xs (n + 4)) M = some (r, M') := h2
  refine am_aload_n (pc' := 1131) 1 dL_law_1130 rfl rfl rfl ?_
  refine am_aload_n (pc' := 1132) 0 dL_law_1131 rfl rfl rfl ?_
  refine am_iload_n (pc' := 1133) 3 dL_law_1132 rfl rfl rfl ?_
  refine am_iconst (pc' := 1134) (v := 1) dL_law_1133 kc_1 rfl ?_
  refine am_iadd (pc' := 1135) dL_law_1134 rfl ?_
  refine lw_ld (pc' := 1136) (n + 1) (lw_j1 n) (by omega) hL dL_law_1135 rfl ?_
  refine am_aload_n (pc' := 1137) 0 dL_law_1136 rfl rfl rfl ?_
  refine am_iload_n (pc' := 1138) 3 dL_law_1137 rfl rfl rfl ?_
  refine am_iconst (pc' := 1139) (v := 2) dL_law_1138 kc_2 rfl ?_
  refine am_iadd (pc' := 1140) dL_law_1139 rfl ?_
  refine lw_ld (pc' := 1141) (n + 2) (lw_j2 n) (by omega) hL dL_law_1140 rfl ?_
  refine am_aload_n (pc' := 1142) 0 dL_law_1141 rfl rfl rfl ?_
  refine am_iload_n (pc' := 1143) 3 dL_law_1142 rfl rfl rfl ?_
  refine am_iconst (pc' := 1144) (v := 3) dL_law_1143 kc_3 rfl ?_
  refine am_iadd (pc' := 1145) dL_law_1144 rfl ?_
  refine lw_ld (pc' := 1146) (n + 3) (lw_j3 n) (by omega) hL dL_law_1145 rfl ?_
  refine am_aload_n (pc' := 1147) 0 dL_law_1146 rfl rfl rfl ?_
  refine am_iload_n (pc' := 1148) 3 dL_law_1147 rfl rfl rfl ?_
  refine am_iconst (pc' := 1149) (v := 4) dL_law_1148 kc_4 rfl ?_
  refine am_iadd (pc' := 1150) dL_law_1149 rfl ?_
  refine lw_ld (pc' := 1151) (n + 4) (lw_j4 n) (by omega) hL dL_law_1150 rfl ?_
  refine lw_call (pc' := 1154) (w1 := (sx_w S' (sm_w M))) (v := .int r) [] [.int (xs (n + 1)), .int (xs (n + 2)), .int (xs (n + 3)), .int (xs (n + 4))] dL_law_1151 cs_L_112 (tx_X11_rooms (sm_w M) (xs (n + 1)) (xs (n + 2)) (xs (n + 3)) (xs (n + 4)) S (r, S') h1p) rfl rfl rfl rfl rfl (Nat.le_of_ble_eq_true rfl) rfl rfl rfl ?_
  refine am_aload_n (pc' := 1155) 2 dL_law_1154 rfl rfl rfl ?_
  refine am_aload_n (pc' := 1156) 0 dL_law_1155 rfl rfl rfl ?_
  refine am_iload_n (pc' := 1157) 3 dL_law_1156 rfl rfl rfl ?_
  refine am_iconst (pc' := 1158) (v := 1) dL_law_1157 kc_1 rfl ?_
  refine am_iadd (pc' := 1159) dL_law_1158 rfl ?_
  refine lw_ld (pc' := 1160) (n + 1) (lw_j1 n) (by omega) hL dL_law_1159 rfl ?_
  refine am_aload_n (pc' := 1161) 0 dL_law_1160 rfl rfl rfl ?_
  refine am_iload_n (pc' := 1162) 3 dL_law_1161 rfl rfl rfl ?_
  refine am_iconst (pc' := 1163) (v := 2) dL_law_1162 kc_2 rfl ?_
  refine am_iadd (pc' := 1164) dL_law_1163 rfl ?_
  refine lw_ld (pc' := 1165) (n + 2) (lw_j2 n) (by omega) hL dL_law_1164 rfl ?_
  refine am_aload_n (pc' := 1166) 0 dL_law_1165 rfl rfl rfl ?_
  refine am_iload_n (pc' := 1167) 3 dL_law_1166 rfl rfl rfl ?_
  refine am_iconst (pc' := 1168) (v := 3) dL_law_1167 kc_3 rfl ?_
  refine am_iadd (pc' := 1169) dL_law_1168 rfl ?_
  refine lw_ld (pc' := 1170) (n + 3) (lw_j3 n) (by omega) hL dL_law_1169 rfl ?_
  refine am_aload_n (pc' := 1171) 0 dL_law_1170 rfl rfl rfl ?_
  refine am_iload_n (pc' := 1172) 3 dL_law_1171 rfl rfl rfl ?_
  refine am_iconst (pc' := 1173) (v := 4) dL_law_1172 kc_4 rfl ?_
  refine am_iadd (pc' := 1174) dL_law_1173 rfl ?_
  refine lw_ld (pc' := 1175) (n + 4) (lw_j4 n) (by omega) hL dL_law_1174 rfl ?_
  refine lw_call (pc' := 1178) (w1 := (sx_w S' (sm_w M'))) (v := .int r) [.int r] [.int (xs (n + 1)), .int (xs (n + 2)), .int (xs (n + 3)), .int (xs (n + 4))] dL_law_1175 cs_L_115 (tx_X12_rooms S' (xs (n + 1)) (xs (n + 2)) (xs (n + 3)) (xs (n + 4)) M (r, M') h2p) rfl rfl rfl rfl rfl (Nat.le_of_ble_eq_true rfl) rfl rfl rfl ?_
  exact am_icmp_eq (pc' := 1181) 1627 dL_law_1178 rfl rfl (fun _ => kk) (fun h => absurd rfl h)
def lx_laws (a1 a2 a3 : Int32) (S : sx_T) : Option (Int32 × sx_T) := fx_X11_laws a1 a2 a3 S
def lm_laws (a1 a2 a3 : Int32) (M : sm_T) : Option (Int32 × sm_T) := fx_X12_laws a1 a2 a3 M
def lq_laws (R : sx_T → sm_T → Prop) : Prop := ∀ (S : sx_T) (M : sm_T), R S M → ∀ a1 a2 a3 : Int32, ∃ r S' M', lx_laws a1 a2 a3 S = some (r, S') ∧ lm_laws a1 a2 a3 M = some (r, M') ∧ R S' M'
set_option maxHeartbeats 100000 in
theorem lk_laws {L : Nat} {xs : Nat → Int32} {n : Nat} (hn : n + 7 ≤ L) (hL : L ≤ 3584) {S S' : sx_T} {M M' : sm_T} {r : Int32} (h1 : lx_laws (xs (n + 1)) (xs (n + 2)) (xs (n + 3)) S = some (r, S')) (h2 : lm_laws (xs (n + 1)) (xs (n + 2)) (xs (n + 3)) M = some (r, M'))
    (kk : am_G mL_law (lw_g L xs) lw_kn 1627 [some (.ref 1050), some (.ref 0), some (.ref 45), some (.int (nI n))] [] (sx_w S' (sm_w M'))) : am_G mL_law (lw_g L xs) lw_kn 1183 [some (.ref 1050), some (.ref 0), some (.ref 45), some (.int (nI n))] [] (sx_w S (sm_w M)) := by
  have h1p : fx_X11_laws (xs (n + 1)) (xs (n + 2)) (xs (n + 3)) S = some (r, S') := h1
  have h2p : fx_X12_laws (xs (n + 1)) (xs (n + 2)) (xs (n + 3)) M = some (r, M') := h2
  refine am_aload_n (pc' := 1184) 1 dL_law_1183 rfl rfl rfl ?_
  refine am_aload_n (pc' := 1185) 0 dL_law_1184 rfl rfl rfl ?_
  refine am_iload_n (pc' := 1186) 3 dL_law_1185 rfl rfl rfl ?_
  refine am_iconst (pc' := 1187) (v := 1) dL_law_1186 kc_1 rfl ?_
  refine am_iadd (pc' := 1188) dL_law_1187 rfl ?_
  refine lw_ld (pc' := 1189) (n + 1) (lw_j1 n) (by omega) hL dL_law_1188 rfl ?_
  refine am_aload_n (pc' := 1190) 0 dL_law_1189 rfl rfl rfl ?_
  refine am_iload_n (pc' := 1191) 3 dL_law_1190 rfl rfl rfl ?_
  refine am_iconst (pc' := 1192) (v := 2) dL_law_1191 kc_2 rfl ?_
  refine am_iadd (pc' := 1193) dL_law_1192 rfl ?_
  refine lw_ld (pc' := 1194) (n + 2) (lw_j2 n) (by omega) hL dL_law_1193 rfl ?_
  refine am_aload_n (pc' := 1195) 0 dL_law_1194 rfl rfl rfl ?_
  refine am_iload_n (pc' := 1196) 3 dL_law_1195 rfl rfl rfl ?_
  refine am_iconst (pc' := 1197) (v := 3) dL_law_1196 kc_3 rfl ?_
  refine am_iadd (pc' := 1198) dL_law_1197 rfl ?_
  refine lw_ld (pc' := 1199) (n + 3) (lw_j3 n) (by omega) hL dL_law_1198 rfl ?_
  refine lw_call (pc' := 1202) (w1 := (sx_w S' (sm_w M))) (v := .int r) [] [.int (xs (n + 1)), .int (xs (n + 2)), .int (xs (n + 3))] dL_law_1199 cs_L_116 (tx_X11_laws (sm_w M) (xs (n + 1)) (xs (n + 2)) (xs (n + 3)) S (r, S') h1p) rfl rfl rfl rfl rfl (Nat.le_of_ble_eq_true rfl) rfl rfl rfl ?_
  refine am_aload_n (pc' := 1203) 2 dL_law_1202 rfl rfl rfl ?_
  refine am_aload_n (pc' := 1204) 0 dL_law_1203 rfl rfl rfl ?_
  refine am_iload_n (pc' := 1205) 3 dL_law_1204 rfl rfl rfl ?_
  refine am_iconst (pc' := 1206) (v := 1) dL_law_1205 kc_1 rfl ?_
  refine am_iadd (pc' := 1207) dL_law_1206 rfl ?_
  refine lw_ld (pc' := 1208) (n + 1) (lw_j1 n) (by omega) hL dL_law_1207 rfl ?_
  refine am_aload_n (pc' := 1209) 0 dL_law_1208 rfl rfl rfl ?_
  refine am_iload_n (pc' := 1210) 3 dL_law_1209 rfl rfl rfl ?_
  refine am_iconst (pc' := 1211) (v := 2) dL_law_1210 kc_2 rfl ?_
  refine am_iadd (pc' := 1212) dL_law_1211 rfl ?_
  refine lw_ld (pc' := 1213) (n + 2) (lw_j2 n) (by omega) hL dL_law_1212 rfl ?_
  refine am_aload_n (pc' := 1214) 0 dL_law_1213 rfl rfl rfl ?_
  refine am_iload_n (pc' := 1215) 3 dL_law_1214 rfl rfl rfl ?_
  refine am_iconst (pc' := 1216) (v := 3) dL_law_1215 kc_3 rfl ?_
  refine am_iadd (pc' := 1217) dL_law_1216 rfl ?_
  refine lw_ld (pc' := 1218) (n + 3) (lw_j3 n) (by omega) hL dL_law_1217 rfl ?_
  refine lw_call (pc' := 1221) (w1 := (sx_w S' (sm_w M'))) (v := .int r) [.int r] [.int (xs (n + 1)), .int (xs (n + 2)), .int (xs (n + 3))] dL_law_1218 cs_L_119 (tx_X12_laws S' (xs (n + 1)) (xs (n + 2)) (xs (n + 3)) M (r, M') h2p) rfl rfl rfl rfl rfl (Nat.le_of_ble_eq_true rfl) rfl rfl rfl ?_
  exact am_icmp_eq (pc' := 1224) 1627 dL_law_1221 rfl rfl (fun _ => kk) (fun h => absurd rfl h)
def lx_film (a1 a2 a3 : Int32) (S : sx_T) : Option (Int32 × sx_T) := fx_X11_film a1 a2 a3 S
def lm_film (a1 a2 a3 : Int32) (M : sm_T) : Option (Int32 × sm_T) := fx_X12_film a1 a2 a3 M
def lq_film (R : sx_T → sm_T → Prop) : Prop := ∀ (S : sx_T) (M : sm_T), R S M → ∀ a1 a2 a3 : Int32, ∃ r S' M', lx_film a1 a2 a3 S = some (r, S') ∧ lm_film a1 a2 a3 M = some (r, M') ∧ R S' M'
set_option maxHeartbeats 100000 in
theorem lk_film {L : Nat} {xs : Nat → Int32} {n : Nat} (hn : n + 7 ≤ L) (hL : L ≤ 3584) {S S' : sx_T} {M M' : sm_T} {r : Int32} (h1 : lx_film (xs (n + 1)) (xs (n + 2)) (xs (n + 3)) S = some (r, S')) (h2 : lm_film (xs (n + 1)) (xs (n + 2)) (xs (n + 3)) M = some (r, M'))
    (kk : am_G mL_law (lw_g L xs) lw_kn 1627 [some (.ref 1050), some (.ref 0), some (.ref 45), some (.int (nI n))] [] (sx_w S' (sm_w M'))) : am_G mL_law (lw_g L xs) lw_kn 1226 [some (.ref 1050), some (.ref 0), some (.ref 45), some (.int (nI n))] [] (sx_w S (sm_w M)) := by
  have h1p : fx_X11_film (xs (n + 1)) (xs (n + 2)) (xs (n + 3)) S = some (r, S') := h1
  have h2p : fx_X12_film (xs (n + 1)) (xs (n + 2)) (xs (n + 3)) M = some (r, M') := h2
  refine am_aload_n (pc' := 1227) 1 dL_law_1226 rfl rfl rfl ?_
  refine am_aload_n (pc' := 1228) 0 dL_law_1227 rfl rfl rfl ?_
  refine am_iload_n (pc' := 1229) 3 dL_law_1228 rfl rfl rfl ?_
  refine am_iconst (pc' := 1230) (v := 1) dL_law_1229 kc_1 rfl ?_
  refine am_iadd (pc' := 1231) dL_law_1230 rfl ?_
  refine lw_ld (pc' := 1232) (n + 1) (lw_j1 n) (by omega) hL dL_law_1231 rfl ?_
  refine am_aload_n (pc' := 1233) 0 dL_law_1232 rfl rfl rfl ?_
  refine am_iload_n (pc' := 1234) 3 dL_law_1233 rfl rfl rfl ?_
  refine am_iconst (pc' := 1235) (v := 2) dL_law_1234 kc_2 rfl ?_
  refine am_iadd (pc' := 1236) dL_law_1235 rfl ?_
  refine lw_ld (pc' := 1237) (n + 2) (lw_j2 n) (by omega) hL dL_law_1236 rfl ?_
  refine am_aload_n (pc' := 1238) 0 dL_law_1237 rfl rfl rfl ?_
  refine am_iload_n (pc' := 1239) 3 dL_law_1238 rfl rfl rfl ?_
  refine am_iconst (pc' := 1240) (v := 3) dL_law_1239 kc_3 rfl ?_
  refine am_iadd (pc' := 1241) dL_law_1240 rfl ?_
  refine lw_ld (pc' := 1242) (n + 3) (lw_j3 n) (by omega) hL dL_law_1241 rfl ?_
  refine lw_call (pc' := 1245) (w1 := (sx_w S' (sm_w M))) (v := .int r) [] [.int (xs (n + 1)), .int (xs (n + 2)), .int (xs (n + 3))] dL_law_1242 cs_L_120 (tx_X11_film (sm_w M) (xs (n + 1)) (xs (n + 2)) (xs (n + 3)) S (r, S') h1p) rfl rfl rfl rfl rfl (Nat.le_of_ble_eq_true rfl) rfl rfl rfl ?_
  refine am_aload_n (pc' := 1246) 2 dL_law_1245 rfl rfl rfl ?_
  refine am_aload_n (pc' := 1247) 0 dL_law_1246 rfl rfl rfl ?_
  refine am_iload_n (pc' := 1248) 3 dL_law_1247 rfl rfl rfl ?_
  refine am_iconst (pc' := 1249) (v := 1) dL_law_1248 kc_1 rfl ?_
  refine am_iadd (pc' := 1250) dL_law_1249 rfl ?_
  refine lw_ld (pc' := 1251) (n + 1) (lw_j1 n) (by omega) hL dL_law_1250 rfl ?_
  refine am_aload_n (pc' := 1252) 0 dL_law_1251 rfl rfl rfl ?_
  refine am_iload_n (pc' := 1253) 3 dL_law_1252 rfl rfl rfl ?_
  refine am_iconst (pc' := 1254) (v := 2) dL_law_1253 kc_2 rfl ?_
  refine am_iadd (pc' := 1255) dL_law_1254 rfl ?_
  refine lw_ld (pc' := 1256) (n + 2) (lw_j2 n) (by omega) hL dL_law_1255 rfl ?_
  refine am_aload_n (pc' := 1257) 0 dL_law_1256 rfl rfl rfl ?_
  refine am_iload_n (pc' := 1258) 3 dL_law_1257 rfl rfl rfl ?_
  refine am_iconst (pc' := 1259) (v := 3) dL_law_1258 kc_3 rfl ?_
  refine am_iadd (pc' := 1260) dL_law_1259 rfl ?_
  refine lw_ld (pc' := 1261) (n + 3) (lw_j3 n) (by omega) hL dL_law_1260 rfl ?_
  refine lw_call (pc' := 1264) (w1 := (sx_w S' (sm_w M'))) (v := .int r) [.int r] [.int (xs (n + 1)), .int (xs (n + 2)), .int (xs (n + 3))] dL_law_1261 cs_L_123 (tx_X12_film S' (xs (n + 1)) (xs (n + 2)) (xs (n + 3)) M (r, M') h2p) rfl rfl rfl rfl rfl (Nat.le_of_ble_eq_true rfl) rfl rfl rfl ?_
  exact am_icmp_eq (pc' := 1267) 1627 dL_law_1264 rfl rfl (fun _ => kk) (fun h => absurd rfl h)
def lx_drawn (a1 a2 a3 : Int32) (S : sx_T) : Option (Int32 × sx_T) := fx_X11_drawn a1 a2 a3 S
def lm_drawn (a1 a2 a3 : Int32) (M : sm_T) : Option (Int32 × sm_T) := fx_X12_drawn a1 a2 a3 M
def lq_drawn (R : sx_T → sm_T → Prop) : Prop := ∀ (S : sx_T) (M : sm_T), R S M → ∀ a1 a2 a3 : Int32, ∃ r S' M', lx_drawn a1 a2 a3 S = some (r, S') ∧ lm_drawn a1 a2 a3 M = some (r, M') ∧ R S' M'
set_option maxHeartbeats 100000 in
theorem lk_drawn {L : Nat} {xs : Nat → Int32} {n : Nat} (hn : n + 7 ≤ L) (hL : L ≤ 3584) {S S' : sx_T} {M M' : sm_T} {r : Int32} (h1 : lx_drawn (xs (n + 1)) (xs (n + 2)) (xs (n + 3)) S = some (r, S')) (h2 : lm_drawn (xs (n + 1)) (xs (n + 2)) (xs (n + 3)) M = some (r, M'))
    (kk : am_G mL_law (lw_g L xs) lw_kn 1627 [some (.ref 1050), some (.ref 0), some (.ref 45), some (.int (nI n))] [] (sx_w S' (sm_w M'))) : am_G mL_law (lw_g L xs) lw_kn 1269 [some (.ref 1050), some (.ref 0), some (.ref 45), some (.int (nI n))] [] (sx_w S (sm_w M)) := by
  have h1p : fx_X11_drawn (xs (n + 1)) (xs (n + 2)) (xs (n + 3)) S = some (r, S') := h1
  have h2p : fx_X12_drawn (xs (n + 1)) (xs (n + 2)) (xs (n + 3)) M = some (r, M') := h2
  refine am_aload_n (pc' := 1270) 1 dL_law_1269 rfl rfl rfl ?_
  refine am_aload_n (pc' := 1271) 0 dL_law_1270 rfl rfl rfl ?_
  refine am_iload_n (pc' := 1272) 3 dL_law_1271 rfl rfl rfl ?_
  refine am_iconst (pc' := 1273) (v := 1) dL_law_1272 kc_1 rfl ?_
  refine am_iadd (pc' := 1274) dL_law_1273 rfl ?_
  refine lw_ld (pc' := 1275) (n + 1) (lw_j1 n) (by omega) hL dL_law_1274 rfl ?_
  refine am_aload_n (pc' := 1276) 0 dL_law_1275 rfl rfl rfl ?_
  refine am_iload_n (pc' := 1277) 3 dL_law_1276 rfl rfl rfl ?_
  refine am_iconst (pc' := 1278) (v := 2) dL_law_1277 kc_2 rfl ?_
  refine am_iadd (pc' := 1279) dL_law_1278 rfl ?_
  refine lw_ld (pc' := 1280) (n + 2) (lw_j2 n) (by omega) hL dL_law_1279 rfl ?_
  refine am_aload_n (pc' := 1281) 0 dL_law_1280 rfl rfl rfl ?_
  refine am_iload_n (pc' := 1282) 3 dL_law_1281 rfl rfl rfl ?_
  refine am_iconst (pc' := 1283) (v := 3) dL_law_1282 kc_3 rfl ?_
  refine am_iadd (pc' := 1284) dL_law_1283 rfl ?_
  refine lw_ld (pc' := 1285) (n + 3) (lw_j3 n) (by omega) hL dL_law_1284 rfl ?_
  refine lw_call (pc' := 1288) (w1 := (sx_w S' (sm_w M))) (v := .int r) [] [.int (xs (n + 1)), .int (xs (n + 2)), .int (xs (n + 3))] dL_law_1285 cs_L_124 (tx_X11_drawn (sm_w M) (xs (n + 1)) (xs (n + 2)) (xs (n + 3)) S (r, S') h1p) rfl rfl rfl rfl rfl (Nat.le_of_ble_eq_true rfl) rfl rfl rfl ?_
  refine am_aload_n (pc' := 1289) 2 dL_law_1288 rfl rfl rfl ?_
  refine am_aload_n (pc' := 1290) 0 dL_law_1289 rfl rfl rfl ?_
  refine am_iload_n (pc' := 1291) 3 dL_law_1290 rfl rfl rfl ?_
  refine am_iconst (pc' := 1292) (v := 1) dL_law_1291 kc_1 rfl ?_
  refine am_iadd (pc' := 1293) dL_law_1292 rfl ?_
  refine lw_ld (pc' := 1294) (n + 1) (lw_j1 n) (by omega) hL dL_law_1293 rfl ?_
  refine am_aload_n (pc' := 1295) 0 dL_law_1294 rfl rfl rfl ?_
  refine am_iload_n (pc' := 1296) 3 dL_law_1295 rfl rfl rfl ?_
  refine am_iconst (pc' := 1297) (v := 2) dL_law_1296 kc_2 rfl ?_
  refine am_iadd (pc' := 1298) dL_law_1297 rfl ?_
  refine lw_ld (pc' := 1299) (n + 2) (lw_j2 n) (by omega) hL dL_law_1298 rfl ?_
  refine am_aload_n (pc' := 1300) 0 dL_law_1299 rfl rfl rfl ?_
  refine am_iload_n (pc' := 1301) 3 dL_law_1300 rfl rfl rfl ?_
  refine am_iconst (pc' := 1302) (v := 3) dL_law_1301 kc_3 rfl ?_
  refine am_iadd (pc' := 1303) dL_law_1302 rfl ?_
  refine lw_ld (pc' := 1304) (n + 3) (lw_j3 n) (by omega) hL dL_law_1303 rfl ?_
  refine lw_call (pc' := 1307) (w1 := (sx_w S' (sm_w M'))) (v := .int r) [.int r] [.int (xs (n + 1)), .int (xs (n + 2)), .int (xs (n + 3))] dL_law_1304 cs_L_127 (tx_X12_drawn S' (xs (n + 1)) (xs (n + 2)) (xs (n + 3)) M (r, M') h2p) rfl rfl rfl rfl rfl (Nat.le_of_ble_eq_true rfl) rfl rfl rfl ?_
  exact am_icmp_eq (pc' := 1310) 1627 dL_law_1307 rfl rfl (fun _ => kk) (fun h => absurd rfl h)
def lx_odds (a1 a2 a3 a4 : Int32) (S : sx_T) : Option (Int64 × sx_T) := fx_X11_odds a1 a2 a3 a4 S
def lm_odds (a1 a2 a3 a4 : Int32) (M : sm_T) : Option (Int64 × sm_T) := fx_X12_odds a1 a2 a3 a4 M
def lq_odds (R : sx_T → sm_T → Prop) : Prop := ∀ (S : sx_T) (M : sm_T), R S M → ∀ a1 a2 a3 a4 : Int32, ∃ r S' M', lx_odds a1 a2 a3 a4 S = some (r, S') ∧ lm_odds a1 a2 a3 a4 M = some (r, M') ∧ R S' M'
set_option maxHeartbeats 100000 in
theorem lk_odds {L : Nat} {xs : Nat → Int32} {n : Nat} (hn : n + 7 ≤ L) (hL : L ≤ 3584) {S S' : sx_T} {M M' : sm_T} {r : Int64} (h1 : lx_odds (xs (n + 1)) (xs (n + 2)) (xs (n + 3)) (xs (n + 4)) S = some (r, S')) (h2 : lm_odds (xs (n + 1)) (xs (n + 2)) (xs (n + 3)) (xs (n + 4)) M = some (r, M'))
    (kk : am_G mL_law (lw_g L xs) lw_kn 1627 [some (.ref 1050), some (.ref 0), some (.ref 45), some (.int (nI n))] [] (sx_w S' (sm_w M'))) : am_G mL_law (lw_g L xs) lw_kn 1312 [some (.ref 1050), some (.ref 0), some (.ref 45), some (.int (nI n))] [] (sx_w S (sm_w M)) := by
  have h1p : fx_X11_odds (xs (n + 1)) (xs (n + 2)) (xs (n + 3)) (xs (n + 4)) S = some (r, S') := h1
  have h2p : fx_X12_odds (xs (n + 1)) (xs (n + 2)) (xs (n + 3)) (xs (n + 4)) M = some (r, M') := h2
  refine am_aload_n (pc' := 1313) 1 dL_law_1312 rfl rfl rfl ?_
  refine am_aload_n (pc' := 1314) 0 dL_law_1313 rfl rfl rfl ?_
  refine am_iload_n (pc' := 1315) 3 dL_law_1314 rfl rfl rfl ?_
  refine am_iconst (pc' := 1316) (v := 1) dL_law_1315 kc_1 rfl ?_
  refine am_iadd (pc' := 1317) dL_law_1316 rfl ?_
  refine lw_ld (pc' := 1318) (n + 1) (lw_j1 n) (by omega) hL dL_law_1317 rfl ?_
  refine am_aload_n (pc' := 1319) 0 dL_law_1318 rfl rfl rfl ?_
  refine am_iload_n (pc' := 1320) 3 dL_law_1319 rfl rfl rfl ?_
  refine am_iconst (pc' := 1321) (v := 2) dL_law_1320 kc_2 rfl ?_
  refine am_iadd (pc' := 1322) dL_law_1321 rfl ?_
  refine lw_ld (pc' := 1323) (n + 2) (lw_j2 n) (by omega) hL dL_law_1322 rfl ?_
  refine am_aload_n (pc' := 1324) 0 dL_law_1323 rfl rfl rfl ?_
  refine am_iload_n (pc' := 1325) 3 dL_law_1324 rfl rfl rfl ?_
  refine am_iconst (pc' := 1326) (v := 3) dL_law_1325 kc_3 rfl ?_
  refine am_iadd (pc' := 1327) dL_law_1326 rfl ?_
  refine lw_ld (pc' := 1328) (n + 3) (lw_j3 n) (by omega) hL dL_law_1327 rfl ?_
  refine am_aload_n (pc' := 1329) 0 dL_law_1328 rfl rfl rfl ?_
  refine am_iload_n (pc' := 1330) 3 dL_law_1329 rfl rfl rfl ?_
  refine am_iconst (pc' := 1331) (v := 4) dL_law_1330 kc_4 rfl ?_
  refine am_iadd (pc' := 1332) dL_law_1331 rfl ?_
  refine lw_ld (pc' := 1333) (n + 4) (lw_j4 n) (by omega) hL dL_law_1332 rfl ?_
  refine lw_call (pc' := 1336) (w1 := (sx_w S' (sm_w M))) (v := .long r) [] [.int (xs (n + 1)), .int (xs (n + 2)), .int (xs (n + 3)), .int (xs (n + 4))] dL_law_1333 cs_L_128 (tx_X11_odds (sm_w M) (xs (n + 1)) (xs (n + 2)) (xs (n + 3)) (xs (n + 4)) S (r, S') h1p) rfl rfl rfl rfl rfl (Nat.le_of_ble_eq_true rfl) rfl rfl rfl ?_
  refine am_aload_n (pc' := 1337) 2 dL_law_1336 rfl rfl rfl ?_
  refine am_aload_n (pc' := 1338) 0 dL_law_1337 rfl rfl rfl ?_
  refine am_iload_n (pc' := 1339) 3 dL_law_1338 rfl rfl rfl ?_
  refine am_iconst (pc' := 1340) (v := 1) dL_law_1339 kc_1 rfl ?_
  refine am_iadd (pc' := 1341) dL_law_1340 rfl ?_
  refine lw_ld (pc' := 1342) (n + 1) (lw_j1 n) (by omega) hL dL_law_1341 rfl ?_
  refine am_aload_n (pc' := 1343) 0 dL_law_1342 rfl rfl rfl ?_
  refine am_iload_n (pc' := 1344) 3 dL_law_1343 rfl rfl rfl ?_
  refine am_iconst (pc' := 1345) (v := 2) dL_law_1344 kc_2 rfl ?_
  refine am_iadd (pc' := 1346) dL_law_1345 rfl ?_
  refine lw_ld (pc' := 1347) (n + 2) (lw_j2 n) (by omega) hL dL_law_1346 rfl ?_
  refine am_aload_n (pc' := 1348) 0 dL_law_1347 rfl rfl rfl ?_
  refine am_iload_n (pc' := 1349) 3 dL_law_1348 rfl rfl rfl ?_
  refine am_iconst (pc' := 1350) (v := 3) dL_law_1349 kc_3 rfl ?_
  refine am_iadd (pc' := 1351) dL_law_1350 rfl ?_
  refine lw_ld (pc' := 1352) (n + 3) (lw_j3 n) (by omega) hL dL_law_1351 rfl ?_
  refine am_aload_n (pc' := 1353) 0 dL_law_1352 rfl rfl rfl ?_
  refine am_iload_n (pc' := 1354) 3 dL_law_1353 rfl rfl rfl ?_
  refine am_iconst (pc' := 1355) (v := 4) dL_law_1354 kc_4 rfl ?_
  refine am_iadd (pc' := 1356) dL_law_1355 rfl ?_
  refine lw_ld (pc' := 1357) (n + 4) (lw_j4 n) (by omega) hL dL_law_1356 rfl ?_
  refine lw_call (pc' := 1360) (w1 := (sx_w S' (sm_w M'))) (v := .long r) [.long r] [.int (xs (n + 1)), .int (xs (n + 2)), .int (xs (n + 3)), .int (xs (n + 4))] dL_law_1357 cs_L_131 (tx_X12_odds S' (xs (n + 1)) (xs (n + 2)) (xs (n + 3)) (xs (n + 4)) M (r, M') h2p) rfl rfl rfl rfl rfl (Nat.le_of_ble_eq_true rfl) rfl rfl rfl ?_
  refine am_lcmp (pc' := 1361) dL_law_1360 rfl ?_
  rw [lw_lcmp]
  exact am_if_eq (pc' := 1364) 1627 dL_law_1361 rfl rfl (fun _ => kk) (fun h => absurd rfl h)
def lx_image (S : sx_T) : Option (Int32 × sx_T) := fx_X11_image S
def lm_image (M : sm_T) : Option (Int32 × sm_T) := fx_X12_image M
def lq_image (R : sx_T → sm_T → Prop) : Prop := ∀ (S : sx_T) (M : sm_T), R S M → ∃ r S' M', lx_image  S = some (r, S') ∧ lm_image  M = some (r, M') ∧ R S' M'
set_option maxHeartbeats 100000 in
theorem lk_image {L : Nat} {xs : Nat → Int32} {n : Nat} (hn : n + 7 ≤ L) (hL : L ≤ 3584) {S S' : sx_T} {M M' : sm_T} {r : Int32} (h1 : lx_image  S = some (r, S')) (h2 : lm_image  M = some (r, M'))
    (kk : am_G mL_law (lw_g L xs) lw_kn 1627 [some (.ref 1050), some (.ref 0), some (.ref 45), some (.int (nI n))] [] (sx_w S' (sm_w M'))) : am_G mL_law (lw_g L xs) lw_kn 1366 [some (.ref 1050), some (.ref 0), some (.ref 45), some (.int (nI n))] [] (sx_w S (sm_w M)) := by
  have h1p : fx_X11_image S = some (r, S') := h1
  have h2p : fx_X12_image M = some (r, M') := h2
  refine am_aload_n (pc' := 1367) 1 dL_law_1366 rfl rfl rfl ?_
  refine lw_call (pc' := 1370) (w1 := (sx_w S' (sm_w M))) (v := .int r) [] [] dL_law_1367 cs_L_132 (tx_X11_image (sm_w M)  S (r, S') h1p) rfl rfl rfl rfl rfl (Nat.le_of_ble_eq_true rfl) rfl rfl rfl ?_
  refine am_aload_n (pc' := 1371) 2 dL_law_1370 rfl rfl rfl ?_
  refine lw_call (pc' := 1374) (w1 := (sx_w S' (sm_w M'))) (v := .int r) [.int r] [] dL_law_1371 cs_L_135 (tx_X12_image S'  M (r, M') h2p) rfl rfl rfl rfl rfl (Nat.le_of_ble_eq_true rfl) rfl rfl rfl ?_
  exact am_icmp_eq (pc' := 1377) 1627 dL_law_1374 rfl rfl (fun _ => kk) (fun h => absurd rfl h)
def lx_back (S : sx_T) : Option (Int32 × sx_T) := fx_X11_back S
def lm_back (M : sm_T) : Option (Int32 × sm_T) := fx_X12_back M
def lq_back (R : sx_T → sm_T → Prop) : Prop := ∀ (S : sx_T) (M : sm_T), R S M → ∃ r S' M', lx_back  S = some (r, S') ∧ lm_back  M = some (r, M') ∧ R S' M'
set_option maxHeartbeats 100000 in
theorem lk_back {L : Nat} {xs : Nat → Int32} {n : Nat} (hn : n + 7 ≤ L) (hL : L ≤ 3584) {S S' : sx_T} {M M' : sm_T} {r : Int32} (h1 : lx_back  S = some (r, S')) (h2 : lm_back  M = some (r, M'))
    (kk : am_G mL_law (lw_g L xs) lw_kn 1627 [some (.ref 1050), some (.ref 0), some (.ref 45), some (.int (nI n))] [] (sx_w S' (sm_w M'))) : am_G mL_law (lw_g L xs) lw_kn 1379 [some (.ref 1050), some (.ref 0), some (.ref 45), some (.int (nI n))] [] (sx_w S (sm_w M)) := by
  have h1p : fx_X11_back S = some (r, S') := h1
  have h2p : fx_X12_back M = some (r, M') := h2
  refine am_aload_n (pc' := 1380) 1 dL_law_1379 rfl rfl rfl ?_
  refine lw_call (pc' := 1383) (w1 := (sx_w S' (sm_w M))) (v := .int r) [] [] dL_law_1380 cs_L_136 (tx_X11_back (sm_w M)  S (r, S') h1p) rfl rfl rfl rfl rfl (Nat.le_of_ble_eq_true rfl) rfl rfl rfl ?_
  refine am_aload_n (pc' := 1384) 2 dL_law_1383 rfl rfl rfl ?_
  refine lw_call (pc' := 1387) (w1 := (sx_w S' (sm_w M'))) (v := .int r) [.int r] [] dL_law_1384 cs_L_139 (tx_X12_back S'  M (r, M') h2p) rfl rfl rfl rfl rfl (Nat.le_of_ble_eq_true rfl) rfl rfl rfl ?_
  exact am_icmp_eq (pc' := 1390) 1627 dL_law_1387 rfl rfl (fun _ => kk) (fun h => absurd rfl h)
def lx_sheet (a1 a2 a3 : Int32) (S : sx_T) : Option (Int32 × sx_T) := fx_X11_sheet a1 a2 a3 S
def lm_sheet (a1 a2 a3 : Int32) (M : sm_T) : Option (Int32 × sm_T) := fx_X12_sheet a1 a2 a3 M
def lq_sheet (R : sx_T → sm_T → Prop) : Prop := ∀ (S : sx_T) (M : sm_T), R S M → ∀ a1 a2 a3 : Int32, ∃ r S' M', lx_sheet a1 a2 a3 S = some (r, S') ∧ lm_sheet a1 a2 a3 M = some (r, M') ∧ R S' M'
set_option maxHeartbeats 100000 in
theorem lk_sheet {L : Nat} {xs : Nat → Int32} {n : Nat} (hn : n + 7 ≤ L) (hL : L ≤ 3584) {S S' : sx_T} {M M' : sm_T} {r : Int32} (h1 : lx_sheet (xs (n + 1)) (xs (n + 2)) (xs (n + 3)) S = some (r, S')) (h2 : lm_sheet (xs (n + 1)) (xs (n + 2)) (xs (n + 3)) M = some (r, M'))
    (kk : am_G mL_law (lw_g L xs) lw_kn 1627 [some (.ref 1050), some (.ref 0), some (.ref 45), some (.int (nI n))] [] (sx_w S' (sm_w M'))) : am_G mL_law (lw_g L xs) lw_kn 1392 [some (.ref 1050), some (.ref 0), some (.ref 45), some (.int (nI n))] [] (sx_w S (sm_w M)) := by
  have h1p : fx_X11_sheet (xs (n + 1)) (xs (n + 2)) (xs (n + 3)) S = some (r, S') := h1
  have h2p : fx_X12_sheet (xs (n + 1)) (xs (n + 2)) (xs (n + 3)) M = some (r, M') := h2
  refine am_aload_n (pc' := 1393) 1 dL_law_1392 rfl rfl rfl ?_
  refine am_aload_n (pc' := 1394) 0 dL_law_1393 rfl rfl rfl ?_
  refine am_iload_n (pc' := 1395) 3 dL_law_1394 rfl rfl rfl ?_
  refine am_iconst (pc' := 1396) (v := 1) dL_law_1395 kc_1 rfl ?_
  refine am_iadd (pc' := 1397) dL_law_1396 rfl ?_
  refine lw_ld (pc' := 1398) (n + 1) (lw_j1 n) (by omega) hL dL_law_1397 rfl ?_
  refine am_aload_n (pc' := 1399) 0 dL_law_1398 rfl rfl rfl ?_
  refine am_iload_n (pc' := 1400) 3 dL_law_1399 rfl rfl rfl ?_
  refine am_iconst (pc' := 1401) (v := 2) dL_law_1400 kc_2 rfl ?_
  refine am_iadd (pc' := 1402) dL_law_1401 rfl ?_
  refine lw_ld (pc' := 1403) (n + 2) (lw_j2 n) (by omega) hL dL_law_1402 rfl ?_
  refine am_aload_n (pc' := 1404) 0 dL_law_1403 rfl rfl rfl ?_
  refine am_iload_n (pc' := 1405) 3 dL_law_1404 rfl rfl rfl ?_
  refine am_iconst (pc' := 1406) (v := 3) dL_law_1405 kc_3 rfl ?_
  refine am_iadd (pc' := 1407) dL_law_1406 rfl ?_
  refine lw_ld (pc' := 1408) (n + 3) (lw_j3 n) (by omega) hL dL_law_1407 rfl ?_
  refine lw_call (pc' := 1411) (w1 := (sx_w S' (sm_w M))) (v := .int r) [] [.int (xs (n + 1)), .int (xs (n + 2)), .int (xs (n + 3))] dL_law_1408 cs_L_140 (tx_X11_sheet (sm_w M) (xs (n + 1)) (xs (n + 2)) (xs (n + 3)) S (r, S') h1p) rfl rfl rfl rfl rfl (Nat.le_of_ble_eq_true rfl) rfl rfl rfl ?_
  refine am_aload_n (pc' := 1412) 2 dL_law_1411 rfl rfl rfl ?_
  refine am_aload_n (pc' := 1413) 0 dL_law_1412 rfl rfl rfl ?_
  refine am_iload_n (pc' := 1414) 3 dL_law_1413 rfl rfl rfl ?_
  refine am_iconst (pc' := 1415) (v := 1) dL_law_1414 kc_1 rfl ?_
  refine am_iadd (pc' := 1416) dL_law_1415 rfl ?_
  refine lw_ld (pc' := 1417) (n + 1) (lw_j1 n) (by omega) hL dL_law_1416 rfl ?_
  refine am_aload_n (pc' := 1418) 0 dL_law_1417 rfl rfl rfl ?_
  refine am_iload_n (pc' := 1419) 3 dL_law_1418 rfl rfl rfl ?_
  refine am_iconst (pc' := 1420) (v := 2) dL_law_1419 kc_2 rfl ?_
  refine am_iadd (pc' := 1421) dL_law_1420 rfl ?_
  refine lw_ld (pc' := 1422) (n + 2) (lw_j2 n) (by omega) hL dL_law_1421 rfl ?_
  refine am_aload_n (pc' := 1423) 0 dL_law_1422 rfl rfl rfl ?_
  refine am_iload_n (pc' := 1424) 3 dL_law_1423 rfl rfl rfl ?_
  refine am_iconst (pc' := 1425) (v := 3) dL_law_1424 kc_3 rfl ?_
  refine am_iadd (pc' := 1426) dL_law_1425 rfl ?_
  refine lw_ld (pc' := 1427) (n + 3) (lw_j3 n) (by omega) hL dL_law_1426 rfl ?_
  refine lw_call (pc' := 1430) (w1 := (sx_w S' (sm_w M'))) (v := .int r) [.int r] [.int (xs (n + 1)), .int (xs (n + 2)), .int (xs (n + 3))] dL_law_1427 cs_L_143 (tx_X12_sheet S' (xs (n + 1)) (xs (n + 2)) (xs (n + 3)) M (r, M') h2p) rfl rfl rfl rfl rfl (Nat.le_of_ble_eq_true rfl) rfl rfl rfl ?_
  exact am_icmp_eq (pc' := 1433) 1627 dL_law_1430 rfl rfl (fun _ => kk) (fun h => absurd rfl h)
def lx_cell (a1 a2 a3 : Int32) (S : sx_T) : Option (Int32 × sx_T) := some (fx_X11_cell a1 a2 a3 S)
def lm_cell (a1 a2 a3 : Int32) (M : sm_T) : Option (Int32 × sm_T) := fx_X12_cell a1 a2 a3 M
def lq_cell (R : sx_T → sm_T → Prop) : Prop := ∀ (S : sx_T) (M : sm_T), R S M → ∀ a1 a2 a3 : Int32, ∃ r S' M', lx_cell a1 a2 a3 S = some (r, S') ∧ lm_cell a1 a2 a3 M = some (r, M') ∧ R S' M'
set_option maxHeartbeats 100000 in
theorem lk_cell {L : Nat} {xs : Nat → Int32} {n : Nat} (hn : n + 7 ≤ L) (hL : L ≤ 3584) {S S' : sx_T} {M M' : sm_T} {r : Int32} (h1 : lx_cell (xs (n + 1)) (xs (n + 2)) (xs (n + 3)) S = some (r, S')) (h2 : lm_cell (xs (n + 1)) (xs (n + 2)) (xs (n + 3)) M = some (r, M'))
    (kk : am_G mL_law (lw_g L xs) lw_kn 1627 [some (.ref 1050), some (.ref 0), some (.ref 45), some (.int (nI n))] [] (sx_w S' (sm_w M'))) : am_G mL_law (lw_g L xs) lw_kn 1435 [some (.ref 1050), some (.ref 0), some (.ref 45), some (.int (nI n))] [] (sx_w S (sm_w M)) := by
  have h1p : fx_X11_cell (xs (n + 1)) (xs (n + 2)) (xs (n + 3)) S = (r, S') := Option.some.inj h1
  have h2p : fx_X12_cell (xs (n + 1)) (xs (n + 2)) (xs (n + 3)) M = some (r, M') := h2
  refine am_aload_n (pc' := 1436) 1 dL_law_1435 rfl rfl rfl ?_
  refine am_aload_n (pc' := 1437) 0 dL_law_1436 rfl rfl rfl ?_
  refine am_iload_n (pc' := 1438) 3 dL_law_1437 rfl rfl rfl ?_
  refine am_iconst (pc' := 1439) (v := 1) dL_law_1438 kc_1 rfl ?_
  refine am_iadd (pc' := 1440) dL_law_1439 rfl ?_
  refine lw_ld (pc' := 1441) (n + 1) (lw_j1 n) (by omega) hL dL_law_1440 rfl ?_
  refine am_aload_n (pc' := 1442) 0 dL_law_1441 rfl rfl rfl ?_
  refine am_iload_n (pc' := 1443) 3 dL_law_1442 rfl rfl rfl ?_
  refine am_iconst (pc' := 1444) (v := 2) dL_law_1443 kc_2 rfl ?_
  refine am_iadd (pc' := 1445) dL_law_1444 rfl ?_
  refine lw_ld (pc' := 1446) (n + 2) (lw_j2 n) (by omega) hL dL_law_1445 rfl ?_
  refine am_aload_n (pc' := 1447) 0 dL_law_1446 rfl rfl rfl ?_
  refine am_iload_n (pc' := 1448) 3 dL_law_1447 rfl rfl rfl ?_
  refine am_iconst (pc' := 1449) (v := 3) dL_law_1448 kc_3 rfl ?_
  refine am_iadd (pc' := 1450) dL_law_1449 rfl ?_
  refine lw_ld (pc' := 1451) (n + 3) (lw_j3 n) (by omega) hL dL_law_1450 rfl ?_
  refine lw_call (pc' := 1454) (w1 := (sx_w S' (sm_w M))) (v := .int r) [] [.int (xs (n + 1)), .int (xs (n + 2)), .int (xs (n + 3))] dL_law_1451 cs_L_144 (tx_X11_cell (sm_w M) (xs (n + 1)) (xs (n + 2)) (xs (n + 3)) S (r, S') h1p) rfl rfl rfl rfl rfl (Nat.le_of_ble_eq_true rfl) rfl rfl rfl ?_
  refine am_aload_n (pc' := 1455) 2 dL_law_1454 rfl rfl rfl ?_
  refine am_aload_n (pc' := 1456) 0 dL_law_1455 rfl rfl rfl ?_
  refine am_iload_n (pc' := 1457) 3 dL_law_1456 rfl rfl rfl ?_
  refine am_iconst (pc' := 1458) (v := 1) dL_law_1457 kc_1 rfl ?_
  refine am_iadd (pc' := 1459) dL_law_1458 rfl ?_
  refine lw_ld (pc' := 1460) (n + 1) (lw_j1 n) (by omega) hL dL_law_1459 rfl ?_
  refine am_aload_n (pc' := 1461) 0 dL_law_1460 rfl rfl rfl ?_
  refine am_iload_n (pc' := 1462) 3 dL_law_1461 rfl rfl rfl ?_
  refine am_iconst (pc' := 1463) (v := 2) dL_law_1462 kc_2 rfl ?_
  refine am_iadd (pc' := 1464) dL_law_1463 rfl ?_
  refine lw_ld (pc' := 1465) (n + 2) (lw_j2 n) (by omega) hL dL_law_1464 rfl ?_
  refine am_aload_n (pc' := 1466) 0 dL_law_1465 rfl rfl rfl ?_
  refine am_iload_n (pc' := 1467) 3 dL_law_1466 rfl rfl rfl ?_
  refine am_iconst (pc' := 1468) (v := 3) dL_law_1467 kc_3 rfl ?_
  refine am_iadd (pc' := 1469) dL_law_1468 rfl ?_
  refine lw_ld (pc' := 1470) (n + 3) (lw_j3 n) (by omega) hL dL_law_1469 rfl ?_
  refine lw_call (pc' := 1473) (w1 := (sx_w S' (sm_w M'))) (v := .int r) [.int r] [.int (xs (n + 1)), .int (xs (n + 2)), .int (xs (n + 3))] dL_law_1470 cs_L_147 (tx_X12_cell S' (xs (n + 1)) (xs (n + 2)) (xs (n + 3)) M (r, M') h2p) rfl rfl rfl rfl rfl (Nat.le_of_ble_eq_true rfl) rfl rfl rfl ?_
  exact am_icmp_eq (pc' := 1476) 1627 dL_law_1473 rfl rfl (fun _ => kk) (fun h => absurd rfl h)
def lx_copy (a1 a2 a3 a4 a5 : Int32) (S : sx_T) : Option (Int32 × sx_T) := fx_X11_copy a1 a2 a3 a4 a5 S
def lm_copy (a1 a2 a3 a4 a5 : Int32) (M : sm_T) : Option (Int32 × sm_T) := fx_X12_copy a1 a2 a3 a4 a5 M
def lq_copy (R : sx_T → sm_T → Prop) : Prop := ∀ (S : sx_T) (M : sm_T), R S M → ∀ a1 a2 a3 a4 a5 : Int32, ∃ r S' M', lx_copy a1 a2 a3 a4 a5 S = some (r, S') ∧ lm_copy a1 a2 a3 a4 a5 M = some (r, M') ∧ R S' M'
set_option maxHeartbeats 100000 in
theorem lk_copy {L : Nat} {xs : Nat → Int32} {n : Nat} (hn : n + 7 ≤ L) (hL : L ≤ 3584) {S S' : sx_T} {M M' : sm_T} {r : Int32} (h1 : lx_copy (xs (n + 1)) (xs (n + 2)) (xs (n + 3)) (xs (n + 4)) (xs (n + 5)) S = some (r, S')) (h2 : lm_copy (xs (n + 1)) (xs (n + 2)) (xs (n + 3)) (xs (n + 4)) (xs (n + 5)) M = some (r, M'))
    (kk : am_G mL_law (lw_g L xs) lw_kn 1627 [some (.ref 1050), some (.ref 0), some (.ref 45), some (.int (nI n))] [] (sx_w S' (sm_w M'))) : am_G mL_law (lw_g L xs) lw_kn 1478 [some (.ref 1050), some (.ref 0), some (.ref 45), some (.int (nI n))] [] (sx_w S (sm_w M)) := by
  have h1p : fx_X11_copy (xs (n + 1)) (xs (n + 2)) (xs (n + 3)) (xs (n + 4)) (xs (n + 5)) S = some (r, S') := h1
  have h2p : fx_X12_copy (xs (n + 1)) (xs (n + 2)) (xs (n + 3)) (xs (n + 4)) (xs (n + 5)) M = some (r, M') := h2
  refine am_aload_n (pc' := 1479) 1 dL_law_1478 rfl rfl rfl ?_
  refine am_aload_n (pc' := 1480) 0 dL_law_1479 rfl rfl rfl ?_
  refine am_iload_n (pc' := 1481) 3 dL_law_1480 rfl rfl rfl ?_
  refine am_iconst (pc' := 1482) (v := 1) dL_law_1481 kc_1 rfl ?_
  refine am_iadd (pc' := 1483) dL_law_1482 rfl ?_
  refine lw_ld (pc' := 1484) (n + 1) (lw_j1 n) (by omega) hL dL_law_1483 rfl ?_
  refine am_aload_n (pc' := 1485) 0 dL_law_1484 rfl rfl rfl ?_
  refine am_iload_n (pc' := 1486) 3 dL_law_1485 rfl rfl rfl ?_
  refine am_iconst (pc' := 1487) (v := 2) dL_law_1486 kc_2 rfl ?_
  refine am_iadd (pc' := 1488) dL_law_1487 rfl ?_
  refine lw_ld (pc' := 1489) (n + 2) (lw_j2 n) (by omega) hL dL_law_1488 rfl ?_
  refine am_aload_n (pc' := 1490) 0 dL_law_1489 rfl rfl rfl ?_
  refine am_iload_n (pc' := 1491) 3 dL_law_1490 rfl rfl rfl ?_
  refine am_iconst (pc' := 1492) (v := 3) dL_law_1491 kc_3 rfl ?_
  refine am_iadd (pc' := 1493) dL_law_1492 rfl ?_
  refine lw_ld (pc' := 1494) (n + 3) (lw_j3 n) (by omega) hL dL_law_1493 rfl ?_
  refine am_aload_n (pc' := 1495) 0 dL_law_1494 rfl rfl rfl ?_
  refine am_iload_n (pc' := 1496) 3 dL_law_1495 rfl rfl rfl ?_
  refine am_iconst (pc' := 1497) (v := 4) dL_law_1496 kc_4 rfl ?_
  refine am_iadd (pc' := 1498) dL_law_1497 rfl ?_
  refine lw_ld (pc' := 1499) (n + 4) (lw_j4 n) (by omega) hL dL_law_1498 rfl ?_
  refine am_aload_n (pc' := 1500) 0 dL_law_1499 rfl rfl rfl ?_
  refine am_iload_n (pc' := 1501) 3 dL_law_1500 rfl rfl rfl ?_
  refine am_iconst (pc' := 1502) (v := 5) dL_law_1501 kc_5 rfl ?_
  refine am_iadd (pc' := 1503) dL_law_1502 rfl ?_
  refine lw_ld (pc' := 1504) (n + 5) (lw_j5 n) (by omega) hL dL_law_1503 rfl ?_
  refine lw_call (pc' := 1507) (w1 := (sx_w S' (sm_w M))) (v := .int r) [] [.int (xs (n + 1)), .int (xs (n + 2)), .int (xs (n + 3)), .int (xs (n + 4)), .int (xs (n + 5))] dL_law_1504 cs_L_148 (tx_X11_copy (sm_w M) (xs (n + 1)) (xs (n + 2)) (xs (n + 3)) (xs (n + 4)) (xs (n + 5)) S (r, S') h1p) rfl rfl rfl rfl rfl (Nat.le_of_ble_eq_true rfl) rfl rfl rfl ?_
  refine am_aload_n (pc' := 1508) 2 dL_law_1507 rfl rfl rfl ?_
  refine am_aload_n (pc' := 1509) 0 dL_law_1508 rfl rfl rfl ?_
  refine am_iload_n (pc' := 1510) 3 dL_law_1509 rfl rfl rfl ?_
  refine am_iconst (pc' := 1511) (v := 1) dL_law_1510 kc_1 rfl ?_
  refine am_iadd (pc' := 1512) dL_law_1511 rfl ?_
  refine lw_ld (pc' := 1513) (n + 1) (lw_j1 n) (by omega) hL dL_law_1512 rfl ?_
  refine am_aload_n (pc' := 1514) 0 dL_law_1513 rfl rfl rfl ?_
  refine am_iload_n (pc' := 1515) 3 dL_law_1514 rfl rfl rfl ?_
  refine am_iconst (pc' := 1516) (v := 2) dL_law_1515 kc_2 rfl ?_
  refine am_iadd (pc' := 1517) dL_law_1516 rfl ?_
  refine lw_ld (pc' := 1518) (n + 2) (lw_j2 n) (by omega) hL dL_law_1517 rfl ?_
  refine am_aload_n (pc' := 1519) 0 dL_law_1518 rfl rfl rfl ?_
  refine am_iload_n (pc' := 1520) 3 dL_law_1519 rfl rfl rfl ?_
  refine am_iconst (pc' := 1521) (v := 3) dL_law_1520 kc_3 rfl ?_
  refine am_iadd (pc' := 1522) dL_law_1521 rfl ?_
  refine lw_ld (pc' := 1523) (n + 3) (lw_j3 n) (by omega) hL dL_law_1522 rfl ?_
  refine am_aload_n (pc' := 1524) 0 dL_law_1523 rfl rfl rfl ?_
  refine am_iload_n (pc' := 1525) 3 dL_law_1524 rfl rfl rfl ?_
  refine am_iconst (pc' := 1526) (v := 4) dL_law_1525 kc_4 rfl ?_
  refine am_iadd (pc' := 1527) dL_law_1526 rfl ?_
  refine lw_ld (pc' := 1528) (n + 4) (lw_j4 n) (by omega) hL dL_law_1527 rfl ?_
  refine am_aload_n (pc' := 1529) 0 dL_law_1528 rfl rfl rfl ?_
  refine am_iload_n (pc' := 1530) 3 dL_law_1529 rfl rfl rfl ?_
  refine am_iconst (pc' := 1531) (v := 5) dL_law_1530 kc_5 rfl ?_
  refine am_iadd (pc' := 1532) dL_law_1531 rfl ?_
  refine lw_ld (pc' := 1533) (n + 5) (lw_j5 n) (by omega) hL dL_law_1532 rfl ?_
  refine lw_call (pc' := 1536) (w1 := (sx_w S' (sm_w M'))) (v := .int r) [.int r] [.int (xs (n + 1)), .int (xs (n + 2)), .int (xs (n + 3)), .int (xs (n + 4)), .int (xs (n + 5))] dL_law_1533 cs_L_152 (tx_X12_copy S' (xs (n + 1)) (xs (n + 2)) (xs (n + 3)) (xs (n + 4)) (xs (n + 5)) M (r, M') h2p) rfl rfl rfl rfl rfl (Nat.le_of_ble_eq_true rfl) rfl rfl rfl ?_
  exact am_icmp_eq (pc' := 1539) 1627 dL_law_1536 rfl rfl (fun _ => kk) (fun h => absurd rfl h)
def lx_viewersBy (a1 a2 a3 a4 : Int32) (S : sx_T) : Option (Int32 × sx_T) := fx_X11_viewersBy a1 a2 a3 a4 S
def lm_viewersBy (a1 a2 a3 a4 : Int32) (M : sm_T) : Option (Int32 × sm_T) := fx_X12_viewersBy a1 a2 a3 a4 M
def lq_viewersBy (R : sx_T → sm_T → Prop) : Prop := ∀ (S : sx_T) (M : sm_T), R S M → ∀ a1 a2 a3 a4 : Int32, ∃ r S' M', lx_viewersBy a1 a2 a3 a4 S = some (r, S') ∧ lm_viewersBy a1 a2 a3 a4 M = some (r, M') ∧ R S' M'
set_option maxHeartbeats 100000 in
theorem lk_viewersBy {L : Nat} {xs : Nat → Int32} {n : Nat} (hn : n + 7 ≤ L) (hL : L ≤ 3584) {S S' : sx_T} {M M' : sm_T} {r : Int32} (h1 : lx_viewersBy (xs (n + 1)) (xs (n + 2)) (xs (n + 3)) (xs (n + 4)) S = some (r, S')) (h2 : lm_viewersBy (xs (n + 1)) (xs (n + 2)) (xs (n + 3)) (xs (n + 4)) M = some (r, M'))
    (kk : am_G mL_law (lw_g L xs) lw_kn 1627 [some (.ref 1050), some (.ref 0), some (.ref 45), some (.int (nI n))] [] (sx_w S' (sm_w M'))) : am_G mL_law (lw_g L xs) lw_kn 1541 [some (.ref 1050), some (.ref 0), some (.ref 45), some (.int (nI n))] [] (sx_w S (sm_w M)) := by
  have h1p : fx_X11_viewersBy (xs (n + 1)) (xs (n + 2)) (xs (n + 3)) (xs (n + 4)) S = some (r, S') := h1
  have h2p : fx_X12_viewersBy (xs (n + 1)) (xs (n + 2)) (xs (n + 3)) (xs (n + 4)) M = some (r, M') := h2
  refine am_aload_n (pc' := 1542) 1 dL_law_1541 rfl rfl rfl ?_
  refine am_aload_n (pc' := 1543) 0 dL_law_1542 rfl rfl rfl ?_
  refine am_iload_n (pc' := 1544) 3 dL_law_1543 rfl rfl rfl ?_
  refine am_iconst (pc' := 1545) (v := 1) dL_law_1544 kc_1 rfl ?_
  refine am_iadd (pc' := 1546) dL_law_1545 rfl ?_
  refine lw_ld (pc' := 1547) (n + 1) (lw_j1 n) (by omega) hL dL_law_1546 rfl ?_
  refine am_aload_n (pc' := 1548) 0 dL_law_1547 rfl rfl rfl ?_
  refine am_iload_n (pc' := 1549) 3 dL_law_1548 rfl rfl rfl ?_
  refine am_iconst (pc' := 1550) (v := 2) dL_law_1549 kc_2 rfl ?_
  refine am_iadd (pc' := 1551) dL_law_1550 rfl ?_
  refine lw_ld (pc' := 1552) (n + 2) (lw_j2 n) (by omega) hL dL_law_1551 rfl ?_
  refine am_aload_n (pc' := 1553) 0 dL_law_1552 rfl rfl rfl ?_
  refine am_iload_n (pc' := 1554) 3 dL_law_1553 rfl rfl rfl ?_
  refine am_iconst (pc' := 1555) (v := 3) dL_law_1554 kc_3 rfl ?_
  refine am_iadd (pc' := 1556) dL_law_1555 rfl ?_
  refine lw_ld (pc' := 1557) (n + 3) (lw_j3 n) (by omega) hL dL_law_1556 rfl ?_
  refine am_aload_n (pc' := 1558) 0 dL_law_1557 rfl rfl rfl ?_
  refine am_iload_n (pc' := 1559) 3 dL_law_1558 rfl rfl rfl ?_
  refine am_iconst (pc' := 1560) (v := 4) dL_law_1559 kc_4 rfl ?_
  refine am_iadd (pc' := 1561) dL_law_1560 rfl ?_
  refine lw_ld (pc' := 1562) (n + 4) (lw_j4 n) (by omega) hL dL_law_1561 rfl ?_
  refine lw_call (pc' := 1565) (w1 := (sx_w S' (sm_w M))) (v := .int r) [] [.int (xs (n + 1)), .int (xs (n + 2)), .int (xs (n + 3)), .int (xs (n + 4))] dL_law_1562 cs_L_153 (tx_X11_viewersBy (sm_w M) (xs (n + 1)) (xs (n + 2)) (xs (n + 3)) (xs (n + 4)) S (r, S') h1p) rfl rfl rfl rfl rfl (Nat.le_of_ble_eq_true rfl) rfl rfl rfl ?_
  refine am_aload_n (pc' := 1566) 2 dL_law_1565 rfl rfl rfl ?_
  refine am_aload_n (pc' := 1567) 0 dL_law_1566 rfl rfl rfl ?_
  refine am_iload_n (pc' := 1568) 3 dL_law_1567 rfl rfl rfl ?_
  refine am_iconst (pc' := 1569) (v := 1) dL_law_1568 kc_1 rfl ?_
  refine am_iadd (pc' := 1570) dL_law_1569 rfl ?_
  refine lw_ld (pc' := 1571) (n + 1) (lw_j1 n) (by omega) hL dL_law_1570 rfl ?_
  refine am_aload_n (pc' := 1572) 0 dL_law_1571 rfl rfl rfl ?_
  refine am_iload_n (pc' := 1573) 3 dL_law_1572 rfl rfl rfl ?_
  refine am_iconst (pc' := 1574) (v := 2) dL_law_1573 kc_2 rfl ?_
  refine am_iadd (pc' := 1575) dL_law_1574 rfl ?_
  refine lw_ld (pc' := 1576) (n + 2) (lw_j2 n) (by omega) hL dL_law_1575 rfl ?_
  refine am_aload_n (pc' := 1577) 0 dL_law_1576 rfl rfl rfl ?_
  refine am_iload_n (pc' := 1578) 3 dL_law_1577 rfl rfl rfl ?_
  refine am_iconst (pc' := 1579) (v := 3) dL_law_1578 kc_3 rfl ?_
  refine am_iadd (pc' := 1580) dL_law_1579 rfl ?_
  refine lw_ld (pc' := 1581) (n + 3) (lw_j3 n) (by omega) hL dL_law_1580 rfl ?_
  refine am_aload_n (pc' := 1582) 0 dL_law_1581 rfl rfl rfl ?_
  refine am_iload_n (pc' := 1583) 3 dL_law_1582 rfl rfl rfl ?_
  refine am_iconst (pc' := 1584) (v := 4) dL_law_1583 kc_4 rfl ?_
  refine am_iadd (pc' := 1585) dL_law_1584 rfl ?_
  refine lw_ld (pc' := 1586) (n + 4) (lw_j4 n) (by omega) hL dL_law_1585 rfl ?_
  refine lw_call (pc' := 1589) (w1 := (sx_w S' (sm_w M'))) (v := .int r) [.int r] [.int (xs (n + 1)), .int (xs (n + 2)), .int (xs (n + 3)), .int (xs (n + 4))] dL_law_1586 cs_L_156 (tx_X12_viewersBy S' (xs (n + 1)) (xs (n + 2)) (xs (n + 3)) (xs (n + 4)) M (r, M') h2p) rfl rfl rfl rfl rfl (Nat.le_of_ble_eq_true rfl) rfl rfl rfl ?_
  exact am_icmp_eq (pc' := 1592) 1627 dL_law_1589 rfl rfl (fun _ => kk) (fun h => absurd rfl h)
def lx_taken (a1 a2 : Int32) (S : sx_T) : Option (Int32 × sx_T) := some (fx_X11_taken a1 a2 S, S)
def lm_taken (a1 a2 : Int32) (M : sm_T) : Option (Int32 × sm_T) := (fx_X12_taken a1 a2 M).map (fun r => (r, M))
def lq_taken (R : sx_T → sm_T → Prop) : Prop := ∀ (S : sx_T) (M : sm_T), R S M → ∀ a1 a2 : Int32, ∃ r S' M', lx_taken a1 a2 S = some (r, S') ∧ lm_taken a1 a2 M = some (r, M') ∧ R S' M'
set_option maxHeartbeats 100000 in
theorem lk_taken {L : Nat} {xs : Nat → Int32} {n : Nat} (hn : n + 7 ≤ L) (hL : L ≤ 3584) {S S' : sx_T} {M M' : sm_T} {r : Int32} (h1 : lx_taken (xs (n + 1)) (xs (n + 2)) S = some (r, S')) (h2 : lm_taken (xs (n + 1)) (xs (n + 2)) M = some (r, M'))
    (kk : am_G mL_law (lw_g L xs) lw_kn 1627 [some (.ref 1050), some (.ref 0), some (.ref 45), some (.int (nI n))] [] (sx_w S' (sm_w M'))) : am_G mL_law (lw_g L xs) lw_kn 1594 [some (.ref 1050), some (.ref 0), some (.ref 45), some (.int (nI n))] [] (sx_w S (sm_w M)) := by
  have h1q := Prod.mk.inj (Option.some.inj (show some (fx_X11_taken (xs (n + 1)) (xs (n + 2)) S, S) = some (r, S') from h1))
  obtain ⟨h1p, rfl⟩ := h1q
  have h2p : fx_X12_taken (xs (n + 1)) (xs (n + 2)) M = some r ∧ M = M' := by
    have q : (fx_X12_taken (xs (n + 1)) (xs (n + 2)) M).map (fun r => (r, M)) = some (r, M') := h2
    cases e : fx_X12_taken (xs (n + 1)) (xs (n + 2)) M with
    | none => rw [e] at q; cases q
    | some v => rw [e] at q; cases q; exact ⟨rfl, rfl⟩
  obtain ⟨h2p, rfl⟩ := h2p
  refine am_aload_n (pc' := 1595) 1 dL_law_1594 rfl rfl rfl ?_
  refine am_aload_n (pc' := 1596) 0 dL_law_1595 rfl rfl rfl ?_
  refine am_iload_n (pc' := 1597) 3 dL_law_1596 rfl rfl rfl ?_
  refine am_iconst (pc' := 1598) (v := 1) dL_law_1597 kc_1 rfl ?_
  refine am_iadd (pc' := 1599) dL_law_1598 rfl ?_
  refine lw_ld (pc' := 1600) (n + 1) (lw_j1 n) (by omega) hL dL_law_1599 rfl ?_
  refine am_aload_n (pc' := 1601) 0 dL_law_1600 rfl rfl rfl ?_
  refine am_iload_n (pc' := 1602) 3 dL_law_1601 rfl rfl rfl ?_
  refine am_iconst (pc' := 1603) (v := 2) dL_law_1602 kc_2 rfl ?_
  refine am_iadd (pc' := 1604) dL_law_1603 rfl ?_
  refine lw_ld (pc' := 1605) (n + 2) (lw_j2 n) (by omega) hL dL_law_1604 rfl ?_
  refine lw_call (pc' := 1608) (w1 := (sx_w S (sm_w M))) (v := .int r) [] [.int (xs (n + 1)), .int (xs (n + 2))] dL_law_1605 cs_L_157 (tx_X11_taken (sm_w M) (xs (n + 1)) (xs (n + 2)) S r h1p) rfl rfl rfl rfl rfl (Nat.le_of_ble_eq_true rfl) rfl rfl rfl ?_
  refine am_aload_n (pc' := 1609) 2 dL_law_1608 rfl rfl rfl ?_
  refine am_aload_n (pc' := 1610) 0 dL_law_1609 rfl rfl rfl ?_
  refine am_iload_n (pc' := 1611) 3 dL_law_1610 rfl rfl rfl ?_
  refine am_iconst (pc' := 1612) (v := 1) dL_law_1611 kc_1 rfl ?_
  refine am_iadd (pc' := 1613) dL_law_1612 rfl ?_
  refine lw_ld (pc' := 1614) (n + 1) (lw_j1 n) (by omega) hL dL_law_1613 rfl ?_
  refine am_aload_n (pc' := 1615) 0 dL_law_1614 rfl rfl rfl ?_
  refine am_iload_n (pc' := 1616) 3 dL_law_1615 rfl rfl rfl ?_
  refine am_iconst (pc' := 1617) (v := 2) dL_law_1616 kc_2 rfl ?_
  refine am_iadd (pc' := 1618) dL_law_1617 rfl ?_
  refine lw_ld (pc' := 1619) (n + 2) (lw_j2 n) (by omega) hL dL_law_1618 rfl ?_
  refine lw_call (pc' := 1622) (w1 := (sx_w S (sm_w M))) (v := .int r) [.int r] [.int (xs (n + 1)), .int (xs (n + 2))] dL_law_1619 cs_L_160 (tx_X12_taken S (xs (n + 1)) (xs (n + 2)) M r h2p) rfl rfl rfl rfl rfl (Nat.le_of_ble_eq_true rfl) rfl rfl rfl ?_
  exact am_icmp_eq (pc' := 1625) 1627 dL_law_1622 rfl rfl (fun _ => kk) (fun h => absurd rfl h)
