set_option maxRecDepth 100000 in
theorem w_law (n : Nat) (xs : Nat → Int32) : (∀ (K : Kt LT) (k : Nat) (L : xL) (st : List Value) (S : LT), nx (cod_law n xs) cut_law K (k + 1) 18 L st S = K 18 L st S) ∧
  (∀ (K : Kt LT) (k : Nat) (L : xL) (st : List Value) (S : LT), nx1 (cod_law n xs) cut_law K k 18 L st S = (O_iload 3 1) (nx (cod_law n xs) cut_law K k) 18 L st S) ∧
  (∀ (K : Kt LT) (k : Nat) (L : xL) (st : List Value) (S : LT), nx (cod_law n xs) cut_law K (k + 1) 19 L st S = (O_aload 0 1) (nx (cod_law n xs) cut_law K k) 19 L st S) ∧
  (∀ (K : Kt LT) (k : Nat) (L : xL) (st : List Value) (S : LT), nx (cod_law n xs) cut_law K (k + 1) 20 L st S = (O_sal 1003 n) (nx (cod_law n xs) cut_law K k) 20 L st S) ∧
  (∀ (K : Kt LT) (k : Nat) (L : xL) (st : List Value) (S : LT), nx (cod_law n xs) cut_law K (k + 1) 21 L st S = (O_int 4 1) (nx (cod_law n xs) cut_law K k) 21 L st S) ∧
  (∀ (K : Kt LT) (k : Nat) (L : xL) (st : List Value) (S : LT), nx (cod_law n xs) cut_law K (k + 1) 22 L st S = (O_isub) (nx (cod_law n xs) cut_law K k) 22 L st S) ∧
  (∀ (K : Kt LT) (k : Nat) (L : xL) (st : List Value) (S : LT), nx (cod_law n xs) cut_law K (k + 1) 23 L st S = (O_icmp_gt 836) (nx (cod_law n xs) cut_law K k) 23 L st S) ∧
  (∀ (K : Kt LT) (k : Nat) (L : xL) (st : List Value) (S : LT), nx (cod_law n xs) cut_law K (k + 1) 26 L st S = (O_aload 0 1) (nx (cod_law n xs) cut_law K k) 26 L st S) ∧
  (∀ (K : Kt LT) (k : Nat) (L : xL) (st : List Value) (S : LT), nx (cod_law n xs) cut_law K (k + 1) 27 L st S = (O_iload 3 1) (nx (cod_law n xs) cut_law K k) 27 L st S) ∧
  (∀ (K : Kt LT) (k : Nat) (L : xL) (st : List Value) (S : LT), nx (cod_law n xs) cut_law K (k + 1) 28 L st S = (O_gald 1003 n xs) (nx (cod_law n xs) cut_law K k) 28 L st S) ∧
  (∀ (K : Kt LT) (k : Nat) (L : xL) (st : List Value) (S : LT), nx (cod_law n xs) cut_law K (k + 1) 29 L st S = (O_int 31 2) (nx (cod_law n xs) cut_law K k) 29 L st S) ∧
  (∀ (K : Kt LT) (k : Nat) (L : xL) (st : List Value) (S : LT), nx (cod_law n xs) cut_law K (k + 1) 31 L st S = (O_iand) (nx (cod_law n xs) cut_law K k) 31 L st S) ∧
  (∀ (K : Kt LT) (k : Nat) (L : xL) (st : List Value) (S : LT), nx (cod_law n xs) cut_law K (k + 1) 32 L st S = (O_switch [(0, 152), (1, 185), (2, 228), (3, 261), (4, 294), (5, 337), (6, 360), (7, 373), (8, 396), (9, 429), (10, 452), (11, 495), (12, 528), (13, 551), (14, 564), (15, 587), (16, 620), (17, 643), (18, 666), (19, 689), (20, 722), (21, 745), (22, 758), (23, 781), (24, 794), (25, 817)] 830) (nx (cod_law n xs) cut_law K k) 32 L st S) ∧
  (∀ (K : Kt LT) (k : Nat) (L : xL) (st : List Value) (S : LT), nx (cod_law n xs) cut_law K (k + 1) 152 L st S = K 152 L st S) ∧
  (∀ (K : Kt LT) (k : Nat) (L : xL) (st : List Value) (S : LT), nx1 (cod_law n xs) cut_law K k 152 L st S = (O_aload 1 1) (nx (cod_law n xs) cut_law K k) 152 L st S) ∧
  (∀ (K : Kt LT) (k : Nat) (L : xL) (st : List Value) (S : LT), nx (cod_law n xs) cut_law K (k + 1) 153 L st S = (O_aload 0 1) (nx (cod_law n xs) cut_law K k) 153 L st S) ∧
  (∀ (K : Kt LT) (k : Nat) (L : xL) (st : List Value) (S : LT), nx (cod_law n xs) cut_law K (k + 1) 154 L st S = (O_iload 3 1) (nx (cod_law n xs) cut_law K k) 154 L st S) ∧
  (∀ (K : Kt LT) (k : Nat) (L : xL) (st : List Value) (S : LT), nx (cod_law n xs) cut_law K (k + 1) 155 L st S = (O_int 1 1) (nx (cod_law n xs) cut_law K k) 155 L st S) ∧
  (∀ (K : Kt LT) (k : Nat) (L : xL) (st : List Value) (S : LT), nx (cod_law n xs) cut_law K (k + 1) 156 L st S = (O_iadd) (nx (cod_law n xs) cut_law K k) 156 L st S) ∧
  (∀ (K : Kt LT) (k : Nat) (L : xL) (st : List Value) (S : LT), nx (cod_law n xs) cut_law K (k + 1) 157 L st S = (O_gald 1003 n xs) (nx (cod_law n xs) cut_law K k) 157 L st S) ∧
  (∀ (K : Kt LT) (k : Nat) (L : xL) (st : List Value) (S : LT), nx (cod_law n xs) cut_law K (k + 1) 158 L st S = (O_aload 0 1) (nx (cod_law n xs) cut_law K k) 158 L st S) ∧
  (∀ (K : Kt LT) (k : Nat) (L : xL) (st : List Value) (S : LT), nx (cod_law n xs) cut_law K (k + 1) 159 L st S = (O_iload 3 1) (nx (cod_law n xs) cut_law K k) 159 L st S) ∧
  (∀ (K : Kt LT) (k : Nat) (L : xL) (st : List Value) (S : LT), nx (cod_law n xs) cut_law K (k + 1) 160 L st S = (O_int 2 1) (nx (cod_law n xs) cut_law K k) 160 L st S) ∧
  (∀ (K : Kt LT) (k : Nat) (L : xL) (st : List Value) (S : LT), nx (cod_law n xs) cut_law K (k + 1) 161 L st S = (O_iadd) (nx (cod_law n xs) cut_law K k) 161 L st S) ∧
  (∀ (K : Kt LT) (k : Nat) (L : xL) (st : List Value) (S : LT), nx (cod_law n xs) cut_law K (k + 1) 162 L st S = (O_gald 1003 n xs) (nx (cod_law n xs) cut_law K k) 162 L st S) ∧
  (∀ (K : Kt LT) (k : Nat) (L : xL) (st : List Value) (S : LT), nx (cod_law n xs) cut_law K (k + 1) 163 L st S = (O_callZ 2 0 yX6_set cX6_set 4 (some .int) 4 fpW (fun S : LT => S.1) (fun S F => (F, S.2))) (nx (cod_law n xs) cut_law K k) 163 L st S) ∧
  (∀ (K : Kt LT) (k : Nat) (L : xL) (st : List Value) (S : LT), nx (cod_law n xs) cut_law K (k + 1) 166 L st S = (O_aload 2 1) (nx (cod_law n xs) cut_law K k) 166 L st S) ∧
  (∀ (K : Kt LT) (k : Nat) (L : xL) (st : List Value) (S : LT), nx (cod_law n xs) cut_law K (k + 1) 167 L st S = (O_aload 0 1) (nx (cod_law n xs) cut_law K k) 167 L st S) ∧
  (∀ (K : Kt LT) (k : Nat) (L : xL) (st : List Value) (S : LT), nx (cod_law n xs) cut_law K (k + 1) 168 L st S = (O_iload 3 1) (nx (cod_law n xs) cut_law K k) 168 L st S) ∧
  (∀ (K : Kt LT) (k : Nat) (L : xL) (st : List Value) (S : LT), nx (cod_law n xs) cut_law K (k + 1) 169 L st S = (O_int 1 1) (nx (cod_law n xs) cut_law K k) 169 L st S) ∧
  (∀ (K : Kt LT) (k : Nat) (L : xL) (st : List Value) (S : LT), nx (cod_law n xs) cut_law K (k + 1) 170 L st S = (O_iadd) (nx (cod_law n xs) cut_law K k) 170 L st S) ∧
  (∀ (K : Kt LT) (k : Nat) (L : xL) (st : List Value) (S : LT), nx (cod_law n xs) cut_law K (k + 1) 171 L st S = (O_gald 1003 n xs) (nx (cod_law n xs) cut_law K k) 171 L st S) ∧
  (∀ (K : Kt LT) (k : Nat) (L : xL) (st : List Value) (S : LT), nx (cod_law n xs) cut_law K (k + 1) 172 L st S = (O_aload 0 1) (nx (cod_law n xs) cut_law K k) 172 L st S) ∧
  (∀ (K : Kt LT) (k : Nat) (L : xL) (st : List Value) (S : LT), nx (cod_law n xs) cut_law K (k + 1) 173 L st S = (O_iload 3 1) (nx (cod_law n xs) cut_law K k) 173 L st S) ∧
  (∀ (K : Kt LT) (k : Nat) (L : xL) (st : List Value) (S : LT), nx (cod_law n xs) cut_law K (k + 1) 174 L st S = (O_int 2 1) (nx (cod_law n xs) cut_law K k) 174 L st S) ∧
  (∀ (K : Kt LT) (k : Nat) (L : xL) (st : List Value) (S : LT), nx (cod_law n xs) cut_law K (k + 1) 175 L st S = (O_iadd) (nx (cod_law n xs) cut_law K k) 175 L st S) ∧
  (∀ (K : Kt LT) (k : Nat) (L : xL) (st : List Value) (S : LT), nx (cod_law n xs) cut_law K (k + 1) 176 L st S = (O_gald 1003 n xs) (nx (cod_law n xs) cut_law K k) 176 L st S) ∧
  (∀ (K : Kt LT) (k : Nat) (L : xL) (st : List Value) (S : LT), nx (cod_law n xs) cut_law K (k + 1) 177 L st S = (O_callV 2 148 (fun S : LT => S.2) (fun S q => (S.1, q)) (spG yX7_set cX7_set 4 (some .int) 2 aW)) (nx (cod_law n xs) cut_law K k) 177 L st S) ∧
  (∀ (K : Kt LT) (k : Nat) (L : xL) (st : List Value) (S : LT), nx (cod_law n xs) cut_law K (k + 1) 180 L st S = (O_icmp_eq 830) (nx (cod_law n xs) cut_law K k) 180 L st S) ∧
  (∀ (K : Kt LT) (k : Nat) (L : xL) (st : List Value) (S : LT), nx (cod_law n xs) cut_law K (k + 1) 183 L st S = (O_int 0 1) (nx (cod_law n xs) cut_law K k) 183 L st S) ∧
  (∀ (K : Kt LT) (k : Nat) (L : xL) (st : List Value) (S : LT), nx (cod_law n xs) cut_law K (k + 1) 185 L st S = K 185 L st S) ∧
  (∀ (K : Kt LT) (k : Nat) (L : xL) (st : List Value) (S : LT), nx1 (cod_law n xs) cut_law K k 185 L st S = (O_aload 1 1) (nx (cod_law n xs) cut_law K k) 185 L st S) ∧
  (∀ (K : Kt LT) (k : Nat) (L : xL) (st : List Value) (S : LT), nx (cod_law n xs) cut_law K (k + 1) 186 L st S = (O_aload 0 1) (nx (cod_law n xs) cut_law K k) 186 L st S) ∧
  (∀ (K : Kt LT) (k : Nat) (L : xL) (st : List Value) (S : LT), nx (cod_law n xs) cut_law K (k + 1) 187 L st S = (O_iload 3 1) (nx (cod_law n xs) cut_law K k) 187 L st S) ∧
  (∀ (K : Kt LT) (k : Nat) (L : xL) (st : List Value) (S : LT), nx (cod_law n xs) cut_law K (k + 1) 188 L st S = (O_int 1 1) (nx (cod_law n xs) cut_law K k) 188 L st S) ∧
  (∀ (K : Kt LT) (k : Nat) (L : xL) (st : List Value) (S : LT), nx (cod_law n xs) cut_law K (k + 1) 189 L st S = (O_iadd) (nx (cod_law n xs) cut_law K k) 189 L st S) ∧
  (∀ (K : Kt LT) (k : Nat) (L : xL) (st : List Value) (S : LT), nx (cod_law n xs) cut_law K (k + 1) 190 L st S = (O_gald 1003 n xs) (nx (cod_law n xs) cut_law K k) 190 L st S) ∧
  (∀ (K : Kt LT) (k : Nat) (L : xL) (st : List Value) (S : LT), nx (cod_law n xs) cut_law K (k + 1) 191 L st S = (O_aload 0 1) (nx (cod_law n xs) cut_law K k) 191 L st S) ∧
  (∀ (K : Kt LT) (k : Nat) (L : xL) (st : List Value) (S : LT), nx (cod_law n xs) cut_law K (k + 1) 192 L st S = (O_iload 3 1) (nx (cod_law n xs) cut_law K k) 192 L st S) ∧
  (∀ (K : Kt LT) (k : Nat) (L : xL) (st : List Value) (S : LT), nx (cod_law n xs) cut_law K (k + 1) 193 L st S = (O_int 2 1) (nx (cod_law n xs) cut_law K k) 193 L st S) ∧
  (∀ (K : Kt LT) (k : Nat) (L : xL) (st : List Value) (S : LT), nx (cod_law n xs) cut_law K (k + 1) 194 L st S = (O_iadd) (nx (cod_law n xs) cut_law K k) 194 L st S) ∧
  (∀ (K : Kt LT) (k : Nat) (L : xL) (st : List Value) (S : LT), nx (cod_law n xs) cut_law K (k + 1) 195 L st S = (O_gald 1003 n xs) (nx (cod_law n xs) cut_law K k) 195 L st S) ∧
  (∀ (K : Kt LT) (k : Nat) (L : xL) (st : List Value) (S : LT), nx (cod_law n xs) cut_law K (k + 1) 196 L st S = (O_aload 0 1) (nx (cod_law n xs) cut_law K k) 196 L st S) ∧
  (∀ (K : Kt LT) (k : Nat) (L : xL) (st : List Value) (S : LT), nx (cod_law n xs) cut_law K (k + 1) 197 L st S = (O_iload 3 1) (nx (cod_law n xs) cut_law K k) 197 L st S) ∧
  (∀ (K : Kt LT) (k : Nat) (L : xL) (st : List Value) (S : LT), nx (cod_law n xs) cut_law K (k + 1) 198 L st S = (O_int 3 1) (nx (cod_law n xs) cut_law K k) 198 L st S) ∧
  (∀ (K : Kt LT) (k : Nat) (L : xL) (st : List Value) (S : LT), nx (cod_law n xs) cut_law K (k + 1) 199 L st S = (O_iadd) (nx (cod_law n xs) cut_law K k) 199 L st S) ∧
  (∀ (K : Kt LT) (k : Nat) (L : xL) (st : List Value) (S : LT), nx (cod_law n xs) cut_law K (k + 1) 200 L st S = (O_gald 1003 n xs) (nx (cod_law n xs) cut_law K k) 200 L st S) ∧
  (∀ (K : Kt LT) (k : Nat) (L : xL) (st : List Value) (S : LT), nx (cod_law n xs) cut_law K (k + 1) 201 L st S = (O_callV 3 0 (fun S : LT => S.1) (fun S F => (F, S.2)) (spG yX6_pump cX6_pump 4 (some .int) 4 fpW)) (nx (cod_law n xs) cut_law K k) 201 L st S) ∧
  (∀ (K : Kt LT) (k : Nat) (L : xL) (st : List Value) (S : LT), nx (cod_law n xs) cut_law K (k + 1) 204 L st S = (O_aload 2 1) (nx (cod_law n xs) cut_law K k) 204 L st S) ∧
  (∀ (K : Kt LT) (k : Nat) (L : xL) (st : List Value) (S : LT), nx (cod_law n xs) cut_law K (k + 1) 205 L st S = (O_aload 0 1) (nx (cod_law n xs) cut_law K k) 205 L st S) ∧
  (∀ (K : Kt LT) (k : Nat) (L : xL) (st : List Value) (S : LT), nx (cod_law n xs) cut_law K (k + 1) 206 L st S = (O_iload 3 1) (nx (cod_law n xs) cut_law K k) 206 L st S) ∧
  (∀ (K : Kt LT) (k : Nat) (L : xL) (st : List Value) (S : LT), nx (cod_law n xs) cut_law K (k + 1) 207 L st S = (O_int 1 1) (nx (cod_law n xs) cut_law K k) 207 L st S) ∧
  (∀ (K : Kt LT) (k : Nat) (L : xL) (st : List Value) (S : LT), nx (cod_law n xs) cut_law K (k + 1) 208 L st S = (O_iadd) (nx (cod_law n xs) cut_law K k) 208 L st S) ∧
  (∀ (K : Kt LT) (k : Nat) (L : xL) (st : List Value) (S : LT), nx (cod_law n xs) cut_law K (k + 1) 209 L st S = (O_gald 1003 n xs) (nx (cod_law n xs) cut_law K k) 209 L st S) ∧
  (∀ (K : Kt LT) (k : Nat) (L : xL) (st : List Value) (S : LT), nx (cod_law n xs) cut_law K (k + 1) 210 L st S = (O_aload 0 1) (nx (cod_law n xs) cut_law K k) 210 L st S) ∧
  (∀ (K : Kt LT) (k : Nat) (L : xL) (st : List Value) (S : LT), nx (cod_law n xs) cut_law K (k + 1) 211 L st S = (O_iload 3 1) (nx (cod_law n xs) cut_law K k) 211 L st S) ∧
  (∀ (K : Kt LT) (k : Nat) (L : xL) (st : List Value) (S : LT), nx (cod_law n xs) cut_law K (k + 1) 212 L st S = (O_int 2 1) (nx (cod_law n xs) cut_law K k) 212 L st S) ∧
  (∀ (K : Kt LT) (k : Nat) (L : xL) (st : List Value) (S : LT), nx (cod_law n xs) cut_law K (k + 1) 213 L st S = (O_iadd) (nx (cod_law n xs) cut_law K k) 213 L st S) ∧
  (∀ (K : Kt LT) (k : Nat) (L : xL) (st : List Value) (S : LT), nx (cod_law n xs) cut_law K (k + 1) 214 L st S = (O_gald 1003 n xs) (nx (cod_law n xs) cut_law K k) 214 L st S) ∧
  (∀ (K : Kt LT) (k : Nat) (L : xL) (st : List Value) (S : LT), nx (cod_law n xs) cut_law K (k + 1) 215 L st S = (O_aload 0 1) (nx (cod_law n xs) cut_law K k) 215 L st S) ∧
  (∀ (K : Kt LT) (k : Nat) (L : xL) (st : List Value) (S : LT), nx (cod_law n xs) cut_law K (k + 1) 216 L st S = (O_iload 3 1) (nx (cod_law n xs) cut_law K k) 216 L st S) ∧
  (∀ (K : Kt LT) (k : Nat) (L : xL) (st : List Value) (S : LT), nx (cod_law n xs) cut_law K (k + 1) 217 L st S = (O_int 3 1) (nx (cod_law n xs) cut_law K k) 217 L st S) ∧
  (∀ (K : Kt LT) (k : Nat) (L : xL) (st : List Value) (S : LT), nx (cod_law n xs) cut_law K (k + 1) 218 L st S = (O_iadd) (nx (cod_law n xs) cut_law K k) 218 L st S) ∧
  (∀ (K : Kt LT) (k : Nat) (L : xL) (st : List Value) (S : LT), nx (cod_law n xs) cut_law K (k + 1) 219 L st S = (O_gald 1003 n xs) (nx (cod_law n xs) cut_law K k) 219 L st S) ∧
  (∀ (K : Kt LT) (k : Nat) (L : xL) (st : List Value) (S : LT), nx (cod_law n xs) cut_law K (k + 1) 220 L st S = (O_callV 3 148 (fun S : LT => S.2) (fun S q => (S.1, q)) (spG yX7_pump cX7_pump 6 (some .int) 1 aW)) (nx (cod_law n xs) cut_law K k) 220 L st S) ∧
  (∀ (K : Kt LT) (k : Nat) (L : xL) (st : List Value) (S : LT), nx (cod_law n xs) cut_law K (k + 1) 223 L st S = (O_icmp_eq 830) (nx (cod_law n xs) cut_law K k) 223 L st S) ∧
  (∀ (K : Kt LT) (k : Nat) (L : xL) (st : List Value) (S : LT), nx (cod_law n xs) cut_law K (k + 1) 226 L st S = (O_int 0 1) (nx (cod_law n xs) cut_law K k) 226 L st S) ∧
  (∀ (K : Kt LT) (k : Nat) (L : xL) (st : List Value) (S : LT), nx (cod_law n xs) cut_law K (k + 1) 228 L st S = K 228 L st S) ∧
  (∀ (K : Kt LT) (k : Nat) (L : xL) (st : List Value) (S : LT), nx1 (cod_law n xs) cut_law K k 228 L st S = (O_aload 1 1) (nx (cod_law n xs) cut_law K k) 228 L st S) ∧
  (∀ (K : Kt LT) (k : Nat) (L : xL) (st : List Value) (S : LT), nx (cod_law n xs) cut_law K (k + 1) 229 L st S = (O_aload 0 1) (nx (cod_law n xs) cut_law K k) 229 L st S) ∧
  (∀ (K : Kt LT) (k : Nat) (L : xL) (st : List Value) (S : LT), nx (cod_law n xs) cut_law K (k + 1) 230 L st S = (O_iload 3 1) (nx (cod_law n xs) cut_law K k) 230 L st S) ∧
  (∀ (K : Kt LT) (k : Nat) (L : xL) (st : List Value) (S : LT), nx (cod_law n xs) cut_law K (k + 1) 231 L st S = (O_int 1 1) (nx (cod_law n xs) cut_law K k) 231 L st S) ∧
  (∀ (K : Kt LT) (k : Nat) (L : xL) (st : List Value) (S : LT), nx (cod_law n xs) cut_law K (k + 1) 232 L st S = (O_iadd) (nx (cod_law n xs) cut_law K k) 232 L st S) ∧
  (∀ (K : Kt LT) (k : Nat) (L : xL) (st : List Value) (S : LT), nx (cod_law n xs) cut_law K (k + 1) 233 L st S = (O_gald 1003 n xs) (nx (cod_law n xs) cut_law K k) 233 L st S) ∧
  (∀ (K : Kt LT) (k : Nat) (L : xL) (st : List Value) (S : LT), nx (cod_law n xs) cut_law K (k + 1) 234 L st S = (O_aload 0 1) (nx (cod_law n xs) cut_law K k) 234 L st S) ∧
  (∀ (K : Kt LT) (k : Nat) (L : xL) (st : List Value) (S : LT), nx (cod_law n xs) cut_law K (k + 1) 235 L st S = (O_iload 3 1) (nx (cod_law n xs) cut_law K k) 235 L st S) ∧
  (∀ (K : Kt LT) (k : Nat) (L : xL) (st : List Value) (S : LT), nx (cod_law n xs) cut_law K (k + 1) 236 L st S = (O_int 2 1) (nx (cod_law n xs) cut_law K k) 236 L st S) ∧
  (∀ (K : Kt LT) (k : Nat) (L : xL) (st : List Value) (S : LT), nx (cod_law n xs) cut_law K (k + 1) 237 L st S = (O_iadd) (nx (cod_law n xs) cut_law K k) 237 L st S) ∧
  (∀ (K : Kt LT) (k : Nat) (L : xL) (st : List Value) (S : LT), nx (cod_law n xs) cut_law K (k + 1) 238 L st S = (O_gald 1003 n xs) (nx (cod_law n xs) cut_law K k) 238 L st S) ∧
  (∀ (K : Kt LT) (k : Nat) (L : xL) (st : List Value) (S : LT), nx (cod_law n xs) cut_law K (k + 1) 239 L st S = (O_callV 2 0 (fun S : LT => S.1) (fun S F => (F, S.2)) (spG yX6_service cX6_service 4 (some .int) 4 fpW)) (nx (cod_law n xs) cut_law K k) 239 L st S) ∧
  (∀ (K : Kt LT) (k : Nat) (L : xL) (st : List Value) (S : LT), nx (cod_law n xs) cut_law K (k + 1) 242 L st S = (O_aload 2 1) (nx (cod_law n xs) cut_law K k) 242 L st S) ∧
  (∀ (K : Kt LT) (k : Nat) (L : xL) (st : List Value) (S : LT), nx (cod_law n xs) cut_law K (k + 1) 243 L st S = (O_aload 0 1) (nx (cod_law n xs) cut_law K k) 243 L st S) ∧
  (∀ (K : Kt LT) (k : Nat) (L : xL) (st : List Value) (S : LT), nx (cod_law n xs) cut_law K (k + 1) 244 L st S = (O_iload 3 1) (nx (cod_law n xs) cut_law K k) 244 L st S) ∧
  (∀ (K : Kt LT) (k : Nat) (L : xL) (st : List Value) (S : LT), nx (cod_law n xs) cut_law K (k + 1) 245 L st S = (O_int 1 1) (nx (cod_law n xs) cut_law K k) 245 L st S) ∧
  (∀ (K : Kt LT) (k : Nat) (L : xL) (st : List Value) (S : LT), nx (cod_law n xs) cut_law K (k + 1) 246 L st S = (O_iadd) (nx (cod_law n xs) cut_law K k) 246 L st S) ∧
  (∀ (K : Kt LT) (k : Nat) (L : xL) (st : List Value) (S : LT), nx (cod_law n xs) cut_law K (k + 1) 247 L st S = (O_gald 1003 n xs) (nx (cod_law n xs) cut_law K k) 247 L st S) ∧
  (∀ (K : Kt LT) (k : Nat) (L : xL) (st : List Value) (S : LT), nx (cod_law n xs) cut_law K (k + 1) 248 L st S = (O_aload 0 1) (nx (cod_law n xs) cut_law K k) 248 L st S) ∧
  (∀ (K : Kt LT) (k : Nat) (L : xL) (st : List Value) (S : LT), nx (cod_law n xs) cut_law K (k + 1) 249 L st S = (O_iload 3 1) (nx (cod_law n xs) cut_law K k) 249 L st S) ∧
  (∀ (K : Kt LT) (k : Nat) (L : xL) (st : List Value) (S : LT), nx (cod_law n xs) cut_law K (k + 1) 250 L st S = (O_int 2 1) (nx (cod_law n xs) cut_law K k) 250 L st S) ∧
  (∀ (K : Kt LT) (k : Nat) (L : xL) (st : List Value) (S : LT), nx (cod_law n xs) cut_law K (k + 1) 251 L st S = (O_iadd) (nx (cod_law n xs) cut_law K k) 251 L st S) ∧
  (∀ (K : Kt LT) (k : Nat) (L : xL) (st : List Value) (S : LT), nx (cod_law n xs) cut_law K (k + 1) 252 L st S = (O_gald 1003 n xs) (nx (cod_law n xs) cut_law K k) 252 L st S) ∧
  (∀ (K : Kt LT) (k : Nat) (L : xL) (st : List Value) (S : LT), nx (cod_law n xs) cut_law K (k + 1) 253 L st S = (O_callV 2 148 (fun S : LT => S.2) (fun S q => (S.1, q)) (spG yX7_service cX7_service 3 (some .int) 5 aW)) (nx (cod_law n xs) cut_law K k) 253 L st S) ∧
  (∀ (K : Kt LT) (k : Nat) (L : xL) (st : List Value) (S : LT), nx (cod_law n xs) cut_law K (k + 1) 256 L st S = (O_icmp_eq 830) (nx (cod_law n xs) cut_law K k) 256 L st S) ∧
  (∀ (K : Kt LT) (k : Nat) (L : xL) (st : List Value) (S : LT), nx (cod_law n xs) cut_law K (k + 1) 259 L st S = (O_int 0 1) (nx (cod_law n xs) cut_law K k) 259 L st S) ∧
  (∀ (K : Kt LT) (k : Nat) (L : xL) (st : List Value) (S : LT), nx (cod_law n xs) cut_law K (k + 1) 261 L st S = K 261 L st S) ∧
  (∀ (K : Kt LT) (k : Nat) (L : xL) (st : List Value) (S : LT), nx1 (cod_law n xs) cut_law K k 261 L st S = (O_aload 1 1) (nx (cod_law n xs) cut_law K k) 261 L st S) ∧
  (∀ (K : Kt LT) (k : Nat) (L : xL) (st : List Value) (S : LT), nx (cod_law n xs) cut_law K (k + 1) 262 L st S = (O_aload 0 1) (nx (cod_law n xs) cut_law K k) 262 L st S) ∧
  (∀ (K : Kt LT) (k : Nat) (L : xL) (st : List Value) (S : LT), nx (cod_law n xs) cut_law K (k + 1) 263 L st S = (O_iload 3 1) (nx (cod_law n xs) cut_law K k) 263 L st S) ∧
  (∀ (K : Kt LT) (k : Nat) (L : xL) (st : List Value) (S : LT), nx (cod_law n xs) cut_law K (k + 1) 264 L st S = (O_int 1 1) (nx (cod_law n xs) cut_law K k) 264 L st S) ∧
  (∀ (K : Kt LT) (k : Nat) (L : xL) (st : List Value) (S : LT), nx (cod_law n xs) cut_law K (k + 1) 265 L st S = (O_iadd) (nx (cod_law n xs) cut_law K k) 265 L st S) ∧
  (∀ (K : Kt LT) (k : Nat) (L : xL) (st : List Value) (S : LT), nx (cod_law n xs) cut_law K (k + 1) 266 L st S = (O_gald 1003 n xs) (nx (cod_law n xs) cut_law K k) 266 L st S) ∧
  (∀ (K : Kt LT) (k : Nat) (L : xL) (st : List Value) (S : LT), nx (cod_law n xs) cut_law K (k + 1) 267 L st S = (O_aload 0 1) (nx (cod_law n xs) cut_law K k) 267 L st S) ∧
  (∀ (K : Kt LT) (k : Nat) (L : xL) (st : List Value) (S : LT), nx (cod_law n xs) cut_law K (k + 1) 268 L st S = (O_iload 3 1) (nx (cod_law n xs) cut_law K k) 268 L st S) ∧
  (∀ (K : Kt LT) (k : Nat) (L : xL) (st : List Value) (S : LT), nx (cod_law n xs) cut_law K (k + 1) 269 L st S = (O_int 2 1) (nx (cod_law n xs) cut_law K k) 269 L st S) ∧
  (∀ (K : Kt LT) (k : Nat) (L : xL) (st : List Value) (S : LT), nx (cod_law n xs) cut_law K (k + 1) 270 L st S = (O_iadd) (nx (cod_law n xs) cut_law K k) 270 L st S) ∧
  (∀ (K : Kt LT) (k : Nat) (L : xL) (st : List Value) (S : LT), nx (cod_law n xs) cut_law K (k + 1) 271 L st S = (O_gald 1003 n xs) (nx (cod_law n xs) cut_law K k) 271 L st S) ∧
  (∀ (K : Kt LT) (k : Nat) (L : xL) (st : List Value) (S : LT), nx (cod_law n xs) cut_law K (k + 1) 272 L st S = (O_callV 2 0 (fun S : LT => S.1) (fun S F => (F, S.2)) (spG yX6_pumpOf cX6_pumpOf 4 (some .int) 2 fpW)) (nx (cod_law n xs) cut_law K k) 272 L st S) ∧
  (∀ (K : Kt LT) (k : Nat) (L : xL) (st : List Value) (S : LT), nx (cod_law n xs) cut_law K (k + 1) 275 L st S = (O_aload 2 1) (nx (cod_law n xs) cut_law K k) 275 L st S) ∧
  (∀ (K : Kt LT) (k : Nat) (L : xL) (st : List Value) (S : LT), nx (cod_law n xs) cut_law K (k + 1) 276 L st S = (O_aload 0 1) (nx (cod_law n xs) cut_law K k) 276 L st S) ∧
  (∀ (K : Kt LT) (k : Nat) (L : xL) (st : List Value) (S : LT), nx (cod_law n xs) cut_law K (k + 1) 277 L st S = (O_iload 3 1) (nx (cod_law n xs) cut_law K k) 277 L st S) ∧
  (∀ (K : Kt LT) (k : Nat) (L : xL) (st : List Value) (S : LT), nx (cod_law n xs) cut_law K (k + 1) 278 L st S = (O_int 1 1) (nx (cod_law n xs) cut_law K k) 278 L st S) ∧
  (∀ (K : Kt LT) (k : Nat) (L : xL) (st : List Value) (S : LT), nx (cod_law n xs) cut_law K (k + 1) 279 L st S = (O_iadd) (nx (cod_law n xs) cut_law K k) 279 L st S) ∧
  (∀ (K : Kt LT) (k : Nat) (L : xL) (st : List Value) (S : LT), nx (cod_law n xs) cut_law K (k + 1) 280 L st S = (O_gald 1003 n xs) (nx (cod_law n xs) cut_law K k) 280 L st S) ∧
  (∀ (K : Kt LT) (k : Nat) (L : xL) (st : List Value) (S : LT), nx (cod_law n xs) cut_law K (k + 1) 281 L st S = (O_aload 0 1) (nx (cod_law n xs) cut_law K k) 281 L st S) ∧
  (∀ (K : Kt LT) (k : Nat) (L : xL) (st : List Value) (S : LT), nx (cod_law n xs) cut_law K (k + 1) 282 L st S = (O_iload 3 1) (nx (cod_law n xs) cut_law K k) 282 L st S) ∧
  (∀ (K : Kt LT) (k : Nat) (L : xL) (st : List Value) (S : LT), nx (cod_law n xs) cut_law K (k + 1) 283 L st S = (O_int 2 1) (nx (cod_law n xs) cut_law K k) 283 L st S) ∧
  (∀ (K : Kt LT) (k : Nat) (L : xL) (st : List Value) (S : LT), nx (cod_law n xs) cut_law K (k + 1) 284 L st S = (O_iadd) (nx (cod_law n xs) cut_law K k) 284 L st S) ∧
  (∀ (K : Kt LT) (k : Nat) (L : xL) (st : List Value) (S : LT), nx (cod_law n xs) cut_law K (k + 1) 285 L st S = (O_gald 1003 n xs) (nx (cod_law n xs) cut_law K k) 285 L st S) ∧
  (∀ (K : Kt LT) (k : Nat) (L : xL) (st : List Value) (S : LT), nx (cod_law n xs) cut_law K (k + 1) 286 L st S = (O_callV 2 148 (fun S : LT => S.2) (fun S q => (S.1, q)) (spG yX7_pumpOf cX7_pumpOf 3 (some .int) 2 aW)) (nx (cod_law n xs) cut_law K k) 286 L st S) ∧
  (∀ (K : Kt LT) (k : Nat) (L : xL) (st : List Value) (S : LT), nx (cod_law n xs) cut_law K (k + 1) 289 L st S = (O_icmp_eq 830) (nx (cod_law n xs) cut_law K k) 289 L st S) ∧
  (∀ (K : Kt LT) (k : Nat) (L : xL) (st : List Value) (S : LT), nx (cod_law n xs) cut_law K (k + 1) 292 L st S = (O_int 0 1) (nx (cod_law n xs) cut_law K k) 292 L st S) ∧
  (∀ (K : Kt LT) (k : Nat) (L : xL) (st : List Value) (S : LT), nx (cod_law n xs) cut_law K (k + 1) 294 L st S = K 294 L st S) ∧
  (∀ (K : Kt LT) (k : Nat) (L : xL) (st : List Value) (S : LT), nx1 (cod_law n xs) cut_law K k 294 L st S = (O_aload 1 1) (nx (cod_law n xs) cut_law K k) 294 L st S) ∧
  (∀ (K : Kt LT) (k : Nat) (L : xL) (st : List Value) (S : LT), nx (cod_law n xs) cut_law K (k + 1) 295 L st S = (O_aload 0 1) (nx (cod_law n xs) cut_law K k) 295 L st S) ∧
  (∀ (K : Kt LT) (k : Nat) (L : xL) (st : List Value) (S : LT), nx (cod_law n xs) cut_law K (k + 1) 296 L st S = (O_iload 3 1) (nx (cod_law n xs) cut_law K k) 296 L st S) ∧
  (∀ (K : Kt LT) (k : Nat) (L : xL) (st : List Value) (S : LT), nx (cod_law n xs) cut_law K (k + 1) 297 L st S = (O_int 1 1) (nx (cod_law n xs) cut_law K k) 297 L st S) ∧
  (∀ (K : Kt LT) (k : Nat) (L : xL) (st : List Value) (S : LT), nx (cod_law n xs) cut_law K (k + 1) 298 L st S = (O_iadd) (nx (cod_law n xs) cut_law K k) 298 L st S) ∧
  (∀ (K : Kt LT) (k : Nat) (L : xL) (st : List Value) (S : LT), nx (cod_law n xs) cut_law K (k + 1) 299 L st S = (O_gald 1003 n xs) (nx (cod_law n xs) cut_law K k) 299 L st S) ∧
  (∀ (K : Kt LT) (k : Nat) (L : xL) (st : List Value) (S : LT), nx (cod_law n xs) cut_law K (k + 1) 300 L st S = (O_aload 0 1) (nx (cod_law n xs) cut_law K k) 300 L st S) ∧
  (∀ (K : Kt LT) (k : Nat) (L : xL) (st : List Value) (S : LT), nx (cod_law n xs) cut_law K (k + 1) 301 L st S = (O_iload 3 1) (nx (cod_law n xs) cut_law K k) 301 L st S) ∧
  (∀ (K : Kt LT) (k : Nat) (L : xL) (st : List Value) (S : LT), nx (cod_law n xs) cut_law K (k + 1) 302 L st S = (O_int 2 1) (nx (cod_law n xs) cut_law K k) 302 L st S) ∧
  (∀ (K : Kt LT) (k : Nat) (L : xL) (st : List Value) (S : LT), nx (cod_law n xs) cut_law K (k + 1) 303 L st S = (O_iadd) (nx (cod_law n xs) cut_law K k) 303 L st S) ∧
  (∀ (K : Kt LT) (k : Nat) (L : xL) (st : List Value) (S : LT), nx (cod_law n xs) cut_law K (k + 1) 304 L st S = (O_gald 1003 n xs) (nx (cod_law n xs) cut_law K k) 304 L st S) ∧
  (∀ (K : Kt LT) (k : Nat) (L : xL) (st : List Value) (S : LT), nx (cod_law n xs) cut_law K (k + 1) 305 L st S = (O_aload 0 1) (nx (cod_law n xs) cut_law K k) 305 L st S) ∧
  (∀ (K : Kt LT) (k : Nat) (L : xL) (st : List Value) (S : LT), nx (cod_law n xs) cut_law K (k + 1) 306 L st S = (O_iload 3 1) (nx (cod_law n xs) cut_law K k) 306 L st S) ∧
  (∀ (K : Kt LT) (k : Nat) (L : xL) (st : List Value) (S : LT), nx (cod_law n xs) cut_law K (k + 1) 307 L st S = (O_int 3 1) (nx (cod_law n xs) cut_law K k) 307 L st S) ∧
  (∀ (K : Kt LT) (k : Nat) (L : xL) (st : List Value) (S : LT), nx (cod_law n xs) cut_law K (k + 1) 308 L st S = (O_iadd) (nx (cod_law n xs) cut_law K k) 308 L st S) ∧
  (∀ (K : Kt LT) (k : Nat) (L : xL) (st : List Value) (S : LT), nx (cod_law n xs) cut_law K (k + 1) 309 L st S = (O_gald 1003 n xs) (nx (cod_law n xs) cut_law K k) 309 L st S) ∧
  (∀ (K : Kt LT) (k : Nat) (L : xL) (st : List Value) (S : LT), nx (cod_law n xs) cut_law K (k + 1) 310 L st S = (O_callV 3 0 (fun S : LT => S.1) (fun S F => (F, S.2)) (spG yX6_curve cX6_curve 4 (some .int) 2 fpW)) (nx (cod_law n xs) cut_law K k) 310 L st S) ∧
  (∀ (K : Kt LT) (k : Nat) (L : xL) (st : List Value) (S : LT), nx (cod_law n xs) cut_law K (k + 1) 313 L st S = (O_aload 2 1) (nx (cod_law n xs) cut_law K k) 313 L st S) ∧
  (∀ (K : Kt LT) (k : Nat) (L : xL) (st : List Value) (S : LT), nx (cod_law n xs) cut_law K (k + 1) 314 L st S = (O_aload 0 1) (nx (cod_law n xs) cut_law K k) 314 L st S) ∧
  (∀ (K : Kt LT) (k : Nat) (L : xL) (st : List Value) (S : LT), nx (cod_law n xs) cut_law K (k + 1) 315 L st S = (O_iload 3 1) (nx (cod_law n xs) cut_law K k) 315 L st S) ∧
  (∀ (K : Kt LT) (k : Nat) (L : xL) (st : List Value) (S : LT), nx (cod_law n xs) cut_law K (k + 1) 316 L st S = (O_int 1 1) (nx (cod_law n xs) cut_law K k) 316 L st S) ∧
  (∀ (K : Kt LT) (k : Nat) (L : xL) (st : List Value) (S : LT), nx (cod_law n xs) cut_law K (k + 1) 317 L st S = (O_iadd) (nx (cod_law n xs) cut_law K k) 317 L st S) ∧
  (∀ (K : Kt LT) (k : Nat) (L : xL) (st : List Value) (S : LT), nx (cod_law n xs) cut_law K (k + 1) 318 L st S = (O_gald 1003 n xs) (nx (cod_law n xs) cut_law K k) 318 L st S) ∧
  (∀ (K : Kt LT) (k : Nat) (L : xL) (st : List Value) (S : LT), nx (cod_law n xs) cut_law K (k + 1) 319 L st S = (O_aload 0 1) (nx (cod_law n xs) cut_law K k) 319 L st S) ∧
  (∀ (K : Kt LT) (k : Nat) (L : xL) (st : List Value) (S : LT), nx (cod_law n xs) cut_law K (k + 1) 320 L st S = (O_iload 3 1) (nx (cod_law n xs) cut_law K k) 320 L st S) ∧
  (∀ (K : Kt LT) (k : Nat) (L : xL) (st : List Value) (S : LT), nx (cod_law n xs) cut_law K (k + 1) 321 L st S = (O_int 2 1) (nx (cod_law n xs) cut_law K k) 321 L st S) ∧
  (∀ (K : Kt LT) (k : Nat) (L : xL) (st : List Value) (S : LT), nx (cod_law n xs) cut_law K (k + 1) 322 L st S = (O_iadd) (nx (cod_law n xs) cut_law K k) 322 L st S) ∧
  (∀ (K : Kt LT) (k : Nat) (L : xL) (st : List Value) (S : LT), nx (cod_law n xs) cut_law K (k + 1) 323 L st S = (O_gald 1003 n xs) (nx (cod_law n xs) cut_law K k) 323 L st S) ∧
  (∀ (K : Kt LT) (k : Nat) (L : xL) (st : List Value) (S : LT), nx (cod_law n xs) cut_law K (k + 1) 324 L st S = (O_aload 0 1) (nx (cod_law n xs) cut_law K k) 324 L st S) ∧
  (∀ (K : Kt LT) (k : Nat) (L : xL) (st : List Value) (S : LT), nx (cod_law n xs) cut_law K (k + 1) 325 L st S = (O_iload 3 1) (nx (cod_law n xs) cut_law K k) 325 L st S) ∧
  (∀ (K : Kt LT) (k : Nat) (L : xL) (st : List Value) (S : LT), nx (cod_law n xs) cut_law K (k + 1) 326 L st S = (O_int 3 1) (nx (cod_law n xs) cut_law K k) 326 L st S) ∧
  (∀ (K : Kt LT) (k : Nat) (L : xL) (st : List Value) (S : LT), nx (cod_law n xs) cut_law K (k + 1) 327 L st S = (O_iadd) (nx (cod_law n xs) cut_law K k) 327 L st S) ∧
  (∀ (K : Kt LT) (k : Nat) (L : xL) (st : List Value) (S : LT), nx (cod_law n xs) cut_law K (k + 1) 328 L st S = (O_gald 1003 n xs) (nx (cod_law n xs) cut_law K k) 328 L st S) ∧
  (∀ (K : Kt LT) (k : Nat) (L : xL) (st : List Value) (S : LT), nx (cod_law n xs) cut_law K (k + 1) 329 L st S = (O_callV 3 148 (fun S : LT => S.2) (fun S q => (S.1, q)) (spG yX7_curve cX7_curve 4 (some .int) 2 aW)) (nx (cod_law n xs) cut_law K k) 329 L st S) ∧
  (∀ (K : Kt LT) (k : Nat) (L : xL) (st : List Value) (S : LT), nx (cod_law n xs) cut_law K (k + 1) 332 L st S = (O_icmp_eq 830) (nx (cod_law n xs) cut_law K k) 332 L st S) ∧
  (∀ (K : Kt LT) (k : Nat) (L : xL) (st : List Value) (S : LT), nx (cod_law n xs) cut_law K (k + 1) 335 L st S = (O_int 0 1) (nx (cod_law n xs) cut_law K k) 335 L st S) ∧
  (∀ (K : Kt LT) (k : Nat) (L : xL) (st : List Value) (S : LT), nx (cod_law n xs) cut_law K (k + 1) 337 L st S = K 337 L st S) ∧
  (∀ (K : Kt LT) (k : Nat) (L : xL) (st : List Value) (S : LT), nx1 (cod_law n xs) cut_law K k 337 L st S = (O_aload 1 1) (nx (cod_law n xs) cut_law K k) 337 L st S) ∧
  (∀ (K : Kt LT) (k : Nat) (L : xL) (st : List Value) (S : LT), nx (cod_law n xs) cut_law K (k + 1) 338 L st S = (O_aload 0 1) (nx (cod_law n xs) cut_law K k) 338 L st S) ∧
  (∀ (K : Kt LT) (k : Nat) (L : xL) (st : List Value) (S : LT), nx (cod_law n xs) cut_law K (k + 1) 339 L st S = (O_iload 3 1) (nx (cod_law n xs) cut_law K k) 339 L st S) ∧
  (∀ (K : Kt LT) (k : Nat) (L : xL) (st : List Value) (S : LT), nx (cod_law n xs) cut_law K (k + 1) 340 L st S = (O_int 1 1) (nx (cod_law n xs) cut_law K k) 340 L st S) ∧
  (∀ (K : Kt LT) (k : Nat) (L : xL) (st : List Value) (S : LT), nx (cod_law n xs) cut_law K (k + 1) 341 L st S = (O_iadd) (nx (cod_law n xs) cut_law K k) 341 L st S) ∧
  (∀ (K : Kt LT) (k : Nat) (L : xL) (st : List Value) (S : LT), nx (cod_law n xs) cut_law K (k + 1) 342 L st S = (O_gald 1003 n xs) (nx (cod_law n xs) cut_law K k) 342 L st S) ∧
  (∀ (K : Kt LT) (k : Nat) (L : xL) (st : List Value) (S : LT), nx (cod_law n xs) cut_law K (k + 1) 343 L st S = (O_callV 1 0 (fun S : LT => S.1) (fun S F => (F, S.2)) (spG yX6_readyAt cX6_readyAt 3 (some .int) 3 fpW)) (nx (cod_law n xs) cut_law K k) 343 L st S) ∧
  (∀ (K : Kt LT) (k : Nat) (L : xL) (st : List Value) (S : LT), nx (cod_law n xs) cut_law K (k + 1) 346 L st S = (O_aload 2 1) (nx (cod_law n xs) cut_law K k) 346 L st S) ∧
  (∀ (K : Kt LT) (k : Nat) (L : xL) (st : List Value) (S : LT), nx (cod_law n xs) cut_law K (k + 1) 347 L st S = (O_aload 0 1) (nx (cod_law n xs) cut_law K k) 347 L st S) ∧
  (∀ (K : Kt LT) (k : Nat) (L : xL) (st : List Value) (S : LT), nx (cod_law n xs) cut_law K (k + 1) 348 L st S = (O_iload 3 1) (nx (cod_law n xs) cut_law K k) 348 L st S) ∧
  (∀ (K : Kt LT) (k : Nat) (L : xL) (st : List Value) (S : LT), nx (cod_law n xs) cut_law K (k + 1) 349 L st S = (O_int 1 1) (nx (cod_law n xs) cut_law K k) 349 L st S) ∧
  (∀ (K : Kt LT) (k : Nat) (L : xL) (st : List Value) (S : LT), nx (cod_law n xs) cut_law K (k + 1) 350 L st S = (O_iadd) (nx (cod_law n xs) cut_law K k) 350 L st S) ∧
  (∀ (K : Kt LT) (k : Nat) (L : xL) (st : List Value) (S : LT), nx (cod_law n xs) cut_law K (k + 1) 351 L st S = (O_gald 1003 n xs) (nx (cod_law n xs) cut_law K k) 351 L st S) ∧
  (∀ (K : Kt LT) (k : Nat) (L : xL) (st : List Value) (S : LT), nx (cod_law n xs) cut_law K (k + 1) 352 L st S = (O_callV 1 148 (fun S : LT => S.2) (fun S q => (S.1, q)) (spG yX7_readyAt cX7_readyAt 3 (some .int) 5 aW)) (nx (cod_law n xs) cut_law K k) 352 L st S) ∧
  (∀ (K : Kt LT) (k : Nat) (L : xL) (st : List Value) (S : LT), nx (cod_law n xs) cut_law K (k + 1) 355 L st S = (O_icmp_eq 830) (nx (cod_law n xs) cut_law K k) 355 L st S) ∧
  (∀ (K : Kt LT) (k : Nat) (L : xL) (st : List Value) (S : LT), nx (cod_law n xs) cut_law K (k + 1) 358 L st S = (O_int 0 1) (nx (cod_law n xs) cut_law K k) 358 L st S) ∧
  (∀ (K : Kt LT) (k : Nat) (L : xL) (st : List Value) (S : LT), nx (cod_law n xs) cut_law K (k + 1) 360 L st S = K 360 L st S) ∧
  (∀ (K : Kt LT) (k : Nat) (L : xL) (st : List Value) (S : LT), nx1 (cod_law n xs) cut_law K k 360 L st S = (O_aload 1 1) (nx (cod_law n xs) cut_law K k) 360 L st S) ∧
  (∀ (K : Kt LT) (k : Nat) (L : xL) (st : List Value) (S : LT), nx (cod_law n xs) cut_law K (k + 1) 361 L st S = (O_callV 0 0 (fun S : LT => S.1) (fun S F => (F, S.2)) (spG yX6_balance cX6_balance 1 (some .int) 2 fpW)) (nx (cod_law n xs) cut_law K k) 361 L st S) ∧
  (∀ (K : Kt LT) (k : Nat) (L : xL) (st : List Value) (S : LT), nx (cod_law n xs) cut_law K (k + 1) 364 L st S = (O_aload 2 1) (nx (cod_law n xs) cut_law K k) 364 L st S) ∧
  (∀ (K : Kt LT) (k : Nat) (L : xL) (st : List Value) (S : LT), nx (cod_law n xs) cut_law K (k + 1) 365 L st S = (O_callV 0 148 (fun S : LT => S.2) (fun S q => (S.1, q)) (spG yX7_balance cX7_balance 4 (some .int) 1 aW)) (nx (cod_law n xs) cut_law K k) 365 L st S) ∧
  (∀ (K : Kt LT) (k : Nat) (L : xL) (st : List Value) (S : LT), nx (cod_law n xs) cut_law K (k + 1) 368 L st S = (O_icmp_eq 830) (nx (cod_law n xs) cut_law K k) 368 L st S) ∧
  (∀ (K : Kt LT) (k : Nat) (L : xL) (st : List Value) (S : LT), nx (cod_law n xs) cut_law K (k + 1) 371 L st S = (O_int 0 1) (nx (cod_law n xs) cut_law K k) 371 L st S) ∧
  (∀ (K : Kt LT) (k : Nat) (L : xL) (st : List Value) (S : LT), nx (cod_law n xs) cut_law K (k + 1) 373 L st S = K 373 L st S) ∧
  (∀ (K : Kt LT) (k : Nat) (L : xL) (st : List Value) (S : LT), nx1 (cod_law n xs) cut_law K k 373 L st S = (O_aload 1 1) (nx (cod_law n xs) cut_law K k) 373 L st S) ∧
  (∀ (K : Kt LT) (k : Nat) (L : xL) (st : List Value) (S : LT), nx (cod_law n xs) cut_law K (k + 1) 374 L st S = (O_aload 0 1) (nx (cod_law n xs) cut_law K k) 374 L st S) ∧
  (∀ (K : Kt LT) (k : Nat) (L : xL) (st : List Value) (S : LT), nx (cod_law n xs) cut_law K (k + 1) 375 L st S = (O_iload 3 1) (nx (cod_law n xs) cut_law K k) 375 L st S) ∧
  (∀ (K : Kt LT) (k : Nat) (L : xL) (st : List Value) (S : LT), nx (cod_law n xs) cut_law K (k + 1) 376 L st S = (O_int 1 1) (nx (cod_law n xs) cut_law K k) 376 L st S) ∧
  (∀ (K : Kt LT) (k : Nat) (L : xL) (st : List Value) (S : LT), nx (cod_law n xs) cut_law K (k + 1) 377 L st S = (O_iadd) (nx (cod_law n xs) cut_law K k) 377 L st S) ∧
  (∀ (K : Kt LT) (k : Nat) (L : xL) (st : List Value) (S : LT), nx (cod_law n xs) cut_law K (k + 1) 378 L st S = (O_gald 1003 n xs) (nx (cod_law n xs) cut_law K k) 378 L st S) ∧
  (∀ (K : Kt LT) (k : Nat) (L : xL) (st : List Value) (S : LT), nx (cod_law n xs) cut_law K (k + 1) 379 L st S = (O_callV 1 0 (fun S : LT => S.1) (fun S F => (F, S.2)) (spG yX6_zone cX6_zone 2 (some .int) 4 fpW)) (nx (cod_law n xs) cut_law K k) 379 L st S) ∧
  (∀ (K : Kt LT) (k : Nat) (L : xL) (st : List Value) (S : LT), nx (cod_law n xs) cut_law K (k + 1) 382 L st S = (O_aload 2 1) (nx (cod_law n xs) cut_law K k) 382 L st S) ∧
  (∀ (K : Kt LT) (k : Nat) (L : xL) (st : List Value) (S : LT), nx (cod_law n xs) cut_law K (k + 1) 383 L st S = (O_aload 0 1) (nx (cod_law n xs) cut_law K k) 383 L st S) ∧
  (∀ (K : Kt LT) (k : Nat) (L : xL) (st : List Value) (S : LT), nx (cod_law n xs) cut_law K (k + 1) 384 L st S = (O_iload 3 1) (nx (cod_law n xs) cut_law K k) 384 L st S) ∧
  (∀ (K : Kt LT) (k : Nat) (L : xL) (st : List Value) (S : LT), nx (cod_law n xs) cut_law K (k + 1) 385 L st S = (O_int 1 1) (nx (cod_law n xs) cut_law K k) 385 L st S) ∧
  (∀ (K : Kt LT) (k : Nat) (L : xL) (st : List Value) (S : LT), nx (cod_law n xs) cut_law K (k + 1) 386 L st S = (O_iadd) (nx (cod_law n xs) cut_law K k) 386 L st S) ∧
  (∀ (K : Kt LT) (k : Nat) (L : xL) (st : List Value) (S : LT), nx (cod_law n xs) cut_law K (k + 1) 387 L st S = (O_gald 1003 n xs) (nx (cod_law n xs) cut_law K k) 387 L st S) ∧
  (∀ (K : Kt LT) (k : Nat) (L : xL) (st : List Value) (S : LT), nx (cod_law n xs) cut_law K (k + 1) 388 L st S = (O_callV 1 148 (fun S : LT => S.2) (fun S q => (S.1, q)) (spG yX7_zone cX7_zone 3 (some .int) 1 aW)) (nx (cod_law n xs) cut_law K k) 388 L st S) ∧
  (∀ (K : Kt LT) (k : Nat) (L : xL) (st : List Value) (S : LT), nx (cod_law n xs) cut_law K (k + 1) 391 L st S = (O_icmp_eq 830) (nx (cod_law n xs) cut_law K k) 391 L st S) ∧
  (∀ (K : Kt LT) (k : Nat) (L : xL) (st : List Value) (S : LT), nx (cod_law n xs) cut_law K (k + 1) 394 L st S = (O_int 0 1) (nx (cod_law n xs) cut_law K k) 394 L st S) ∧
  (∀ (K : Kt LT) (k : Nat) (L : xL) (st : List Value) (S : LT), nx (cod_law n xs) cut_law K (k + 1) 396 L st S = K 396 L st S) ∧
  (∀ (K : Kt LT) (k : Nat) (L : xL) (st : List Value) (S : LT), nx1 (cod_law n xs) cut_law K k 396 L st S = (O_aload 1 1) (nx (cod_law n xs) cut_law K k) 396 L st S) ∧
  (∀ (K : Kt LT) (k : Nat) (L : xL) (st : List Value) (S : LT), nx (cod_law n xs) cut_law K (k + 1) 397 L st S = (O_aload 0 1) (nx (cod_law n xs) cut_law K k) 397 L st S) ∧
  (∀ (K : Kt LT) (k : Nat) (L : xL) (st : List Value) (S : LT), nx (cod_law n xs) cut_law K (k + 1) 398 L st S = (O_iload 3 1) (nx (cod_law n xs) cut_law K k) 398 L st S) ∧
  (∀ (K : Kt LT) (k : Nat) (L : xL) (st : List Value) (S : LT), nx (cod_law n xs) cut_law K (k + 1) 399 L st S = (O_int 1 1) (nx (cod_law n xs) cut_law K k) 399 L st S) ∧
  (∀ (K : Kt LT) (k : Nat) (L : xL) (st : List Value) (S : LT), nx (cod_law n xs) cut_law K (k + 1) 400 L st S = (O_iadd) (nx (cod_law n xs) cut_law K k) 400 L st S) ∧
  (∀ (K : Kt LT) (k : Nat) (L : xL) (st : List Value) (S : LT), nx (cod_law n xs) cut_law K (k + 1) 401 L st S = (O_gald 1003 n xs) (nx (cod_law n xs) cut_law K k) 401 L st S) ∧
  (∀ (K : Kt LT) (k : Nat) (L : xL) (st : List Value) (S : LT), nx (cod_law n xs) cut_law K (k + 1) 402 L st S = (O_aload 0 1) (nx (cod_law n xs) cut_law K k) 402 L st S) ∧
  (∀ (K : Kt LT) (k : Nat) (L : xL) (st : List Value) (S : LT), nx (cod_law n xs) cut_law K (k + 1) 403 L st S = (O_iload 3 1) (nx (cod_law n xs) cut_law K k) 403 L st S) ∧
  (∀ (K : Kt LT) (k : Nat) (L : xL) (st : List Value) (S : LT), nx (cod_law n xs) cut_law K (k + 1) 404 L st S = (O_int 2 1) (nx (cod_law n xs) cut_law K k) 404 L st S) ∧
  (∀ (K : Kt LT) (k : Nat) (L : xL) (st : List Value) (S : LT), nx (cod_law n xs) cut_law K (k + 1) 405 L st S = (O_iadd) (nx (cod_law n xs) cut_law K k) 405 L st S) ∧
  (∀ (K : Kt LT) (k : Nat) (L : xL) (st : List Value) (S : LT), nx (cod_law n xs) cut_law K (k + 1) 406 L st S = (O_gald 1003 n xs) (nx (cod_law n xs) cut_law K k) 406 L st S) ∧
  (∀ (K : Kt LT) (k : Nat) (L : xL) (st : List Value) (S : LT), nx (cod_law n xs) cut_law K (k + 1) 407 L st S = (O_callV 2 0 (fun S : LT => S.1) (fun S F => (F, S.2)) (spG yX6_open cX6_open 4 (some .int) 4 fpW)) (nx (cod_law n xs) cut_law K k) 407 L st S) ∧
  (∀ (K : Kt LT) (k : Nat) (L : xL) (st : List Value) (S : LT), nx (cod_law n xs) cut_law K (k + 1) 410 L st S = (O_aload 2 1) (nx (cod_law n xs) cut_law K k) 410 L st S) ∧
  (∀ (K : Kt LT) (k : Nat) (L : xL) (st : List Value) (S : LT), nx (cod_law n xs) cut_law K (k + 1) 411 L st S = (O_aload 0 1) (nx (cod_law n xs) cut_law K k) 411 L st S) ∧
  (∀ (K : Kt LT) (k : Nat) (L : xL) (st : List Value) (S : LT), nx (cod_law n xs) cut_law K (k + 1) 412 L st S = (O_iload 3 1) (nx (cod_law n xs) cut_law K k) 412 L st S) ∧
  (∀ (K : Kt LT) (k : Nat) (L : xL) (st : List Value) (S : LT), nx (cod_law n xs) cut_law K (k + 1) 413 L st S = (O_int 1 1) (nx (cod_law n xs) cut_law K k) 413 L st S) ∧
  (∀ (K : Kt LT) (k : Nat) (L : xL) (st : List Value) (S : LT), nx (cod_law n xs) cut_law K (k + 1) 414 L st S = (O_iadd) (nx (cod_law n xs) cut_law K k) 414 L st S) ∧
  (∀ (K : Kt LT) (k : Nat) (L : xL) (st : List Value) (S : LT), nx (cod_law n xs) cut_law K (k + 1) 415 L st S = (O_gald 1003 n xs) (nx (cod_law n xs) cut_law K k) 415 L st S) ∧
  (∀ (K : Kt LT) (k : Nat) (L : xL) (st : List Value) (S : LT), nx (cod_law n xs) cut_law K (k + 1) 416 L st S = (O_aload 0 1) (nx (cod_law n xs) cut_law K k) 416 L st S) ∧
  (∀ (K : Kt LT) (k : Nat) (L : xL) (st : List Value) (S : LT), nx (cod_law n xs) cut_law K (k + 1) 417 L st S = (O_iload 3 1) (nx (cod_law n xs) cut_law K k) 417 L st S) ∧
  (∀ (K : Kt LT) (k : Nat) (L : xL) (st : List Value) (S : LT), nx (cod_law n xs) cut_law K (k + 1) 418 L st S = (O_int 2 1) (nx (cod_law n xs) cut_law K k) 418 L st S) ∧
  (∀ (K : Kt LT) (k : Nat) (L : xL) (st : List Value) (S : LT), nx (cod_law n xs) cut_law K (k + 1) 419 L st S = (O_iadd) (nx (cod_law n xs) cut_law K k) 419 L st S) ∧
  (∀ (K : Kt LT) (k : Nat) (L : xL) (st : List Value) (S : LT), nx (cod_law n xs) cut_law K (k + 1) 420 L st S = (O_gald 1003 n xs) (nx (cod_law n xs) cut_law K k) 420 L st S) ∧
  (∀ (K : Kt LT) (k : Nat) (L : xL) (st : List Value) (S : LT), nx (cod_law n xs) cut_law K (k + 1) 421 L st S = (O_callV 2 148 (fun S : LT => S.2) (fun S q => (S.1, q)) (spG yX7_open cX7_open 3 (some .int) 2 aW)) (nx (cod_law n xs) cut_law K k) 421 L st S) ∧
  (∀ (K : Kt LT) (k : Nat) (L : xL) (st : List Value) (S : LT), nx (cod_law n xs) cut_law K (k + 1) 424 L st S = (O_icmp_eq 830) (nx (cod_law n xs) cut_law K k) 424 L st S) ∧
  (∀ (K : Kt LT) (k : Nat) (L : xL) (st : List Value) (S : LT), nx (cod_law n xs) cut_law K (k + 1) 427 L st S = (O_int 0 1) (nx (cod_law n xs) cut_law K k) 427 L st S) ∧
  (∀ (K : Kt LT) (k : Nat) (L : xL) (st : List Value) (S : LT), nx (cod_law n xs) cut_law K (k + 1) 429 L st S = K 429 L st S) ∧
  (∀ (K : Kt LT) (k : Nat) (L : xL) (st : List Value) (S : LT), nx1 (cod_law n xs) cut_law K k 429 L st S = (O_aload 1 1) (nx (cod_law n xs) cut_law K k) 429 L st S) ∧
  (∀ (K : Kt LT) (k : Nat) (L : xL) (st : List Value) (S : LT), nx (cod_law n xs) cut_law K (k + 1) 430 L st S = (O_aload 0 1) (nx (cod_law n xs) cut_law K k) 430 L st S) ∧
  (∀ (K : Kt LT) (k : Nat) (L : xL) (st : List Value) (S : LT), nx (cod_law n xs) cut_law K (k + 1) 431 L st S = (O_iload 3 1) (nx (cod_law n xs) cut_law K k) 431 L st S) ∧
  (∀ (K : Kt LT) (k : Nat) (L : xL) (st : List Value) (S : LT), nx (cod_law n xs) cut_law K (k + 1) 432 L st S = (O_int 1 1) (nx (cod_law n xs) cut_law K k) 432 L st S) ∧
  (∀ (K : Kt LT) (k : Nat) (L : xL) (st : List Value) (S : LT), nx (cod_law n xs) cut_law K (k + 1) 433 L st S = (O_iadd) (nx (cod_law n xs) cut_law K k) 433 L st S) ∧
  (∀ (K : Kt LT) (k : Nat) (L : xL) (st : List Value) (S : LT), nx (cod_law n xs) cut_law K (k + 1) 434 L st S = (O_gald 1003 n xs) (nx (cod_law n xs) cut_law K k) 434 L st S) ∧
  (∀ (K : Kt LT) (k : Nat) (L : xL) (st : List Value) (S : LT), nx (cod_law n xs) cut_law K (k + 1) 435 L st S = (O_callV 1 0 (fun S : LT => S.1) (fun S F => (F, S.2)) (spG yX6_leak cX6_leak 3 (some .int) 4 fpW)) (nx (cod_law n xs) cut_law K k) 435 L st S) ∧
  (∀ (K : Kt LT) (k : Nat) (L : xL) (st : List Value) (S : LT), nx (cod_law n xs) cut_law K (k + 1) 438 L st S = (O_aload 2 1) (nx (cod_law n xs) cut_law K k) 438 L st S) ∧
  (∀ (K : Kt LT) (k : Nat) (L : xL) (st : List Value) (S : LT), nx (cod_law n xs) cut_law K (k + 1) 439 L st S = (O_aload 0 1) (nx (cod_law n xs) cut_law K k) 439 L st S) ∧
  (∀ (K : Kt LT) (k : Nat) (L : xL) (st : List Value) (S : LT), nx (cod_law n xs) cut_law K (k + 1) 440 L st S = (O_iload 3 1) (nx (cod_law n xs) cut_law K k) 440 L st S) ∧
  (∀ (K : Kt LT) (k : Nat) (L : xL) (st : List Value) (S : LT), nx (cod_law n xs) cut_law K (k + 1) 441 L st S = (O_int 1 1) (nx (cod_law n xs) cut_law K k) 441 L st S) ∧
  (∀ (K : Kt LT) (k : Nat) (L : xL) (st : List Value) (S : LT), nx (cod_law n xs) cut_law K (k + 1) 442 L st S = (O_iadd) (nx (cod_law n xs) cut_law K k) 442 L st S) ∧
  (∀ (K : Kt LT) (k : Nat) (L : xL) (st : List Value) (S : LT), nx (cod_law n xs) cut_law K (k + 1) 443 L st S = (O_gald 1003 n xs) (nx (cod_law n xs) cut_law K k) 443 L st S) ∧
  (∀ (K : Kt LT) (k : Nat) (L : xL) (st : List Value) (S : LT), nx (cod_law n xs) cut_law K (k + 1) 444 L st S = (O_callV 1 148 (fun S : LT => S.2) (fun S q => (S.1, q)) (spG yX7_leak cX7_leak 3 (some .int) 1 aW)) (nx (cod_law n xs) cut_law K k) 444 L st S) ∧
  (∀ (K : Kt LT) (k : Nat) (L : xL) (st : List Value) (S : LT), nx (cod_law n xs) cut_law K (k + 1) 447 L st S = (O_icmp_eq 830) (nx (cod_law n xs) cut_law K k) 447 L st S) ∧
  (∀ (K : Kt LT) (k : Nat) (L : xL) (st : List Value) (S : LT), nx (cod_law n xs) cut_law K (k + 1) 450 L st S = (O_int 0 1) (nx (cod_law n xs) cut_law K k) 450 L st S) ∧
  (∀ (K : Kt LT) (k : Nat) (L : xL) (st : List Value) (S : LT), nx (cod_law n xs) cut_law K (k + 1) 452 L st S = K 452 L st S) ∧
  (∀ (K : Kt LT) (k : Nat) (L : xL) (st : List Value) (S : LT), nx1 (cod_law n xs) cut_law K k 452 L st S = (O_aload 1 1) (nx (cod_law n xs) cut_law K k) 452 L st S) ∧
  (∀ (K : Kt LT) (k : Nat) (L : xL) (st : List Value) (S : LT), nx (cod_law n xs) cut_law K (k + 1) 453 L st S = (O_aload 0 1) (nx (cod_law n xs) cut_law K k) 453 L st S) ∧
  (∀ (K : Kt LT) (k : Nat) (L : xL) (st : List Value) (S : LT), nx (cod_law n xs) cut_law K (k + 1) 454 L st S = (O_iload 3 1) (nx (cod_law n xs) cut_law K k) 454 L st S) ∧
  (∀ (K : Kt LT) (k : Nat) (L : xL) (st : List Value) (S : LT), nx (cod_law n xs) cut_law K (k + 1) 455 L st S = (O_int 1 1) (nx (cod_law n xs) cut_law K k) 455 L st S) ∧
  (∀ (K : Kt LT) (k : Nat) (L : xL) (st : List Value) (S : LT), nx (cod_law n xs) cut_law K (k + 1) 456 L st S = (O_iadd) (nx (cod_law n xs) cut_law K k) 456 L st S) ∧
  (∀ (K : Kt LT) (k : Nat) (L : xL) (st : List Value) (S : LT), nx (cod_law n xs) cut_law K (k + 1) 457 L st S = (O_gald 1003 n xs) (nx (cod_law n xs) cut_law K k) 457 L st S) ∧
  (∀ (K : Kt LT) (k : Nat) (L : xL) (st : List Value) (S : LT), nx (cod_law n xs) cut_law K (k + 1) 458 L st S = (O_aload 0 1) (nx (cod_law n xs) cut_law K k) 458 L st S) ∧
  (∀ (K : Kt LT) (k : Nat) (L : xL) (st : List Value) (S : LT), nx (cod_law n xs) cut_law K (k + 1) 459 L st S = (O_iload 3 1) (nx (cod_law n xs) cut_law K k) 459 L st S) ∧
  (∀ (K : Kt LT) (k : Nat) (L : xL) (st : List Value) (S : LT), nx (cod_law n xs) cut_law K (k + 1) 460 L st S = (O_int 2 1) (nx (cod_law n xs) cut_law K k) 460 L st S) ∧
  (∀ (K : Kt LT) (k : Nat) (L : xL) (st : List Value) (S : LT), nx (cod_law n xs) cut_law K (k + 1) 461 L st S = (O_iadd) (nx (cod_law n xs) cut_law K k) 461 L st S) ∧
  (∀ (K : Kt LT) (k : Nat) (L : xL) (st : List Value) (S : LT), nx (cod_law n xs) cut_law K (k + 1) 462 L st S = (O_gald 1003 n xs) (nx (cod_law n xs) cut_law K k) 462 L st S) ∧
  (∀ (K : Kt LT) (k : Nat) (L : xL) (st : List Value) (S : LT), nx (cod_law n xs) cut_law K (k + 1) 463 L st S = (O_aload 0 1) (nx (cod_law n xs) cut_law K k) 463 L st S) ∧
  (∀ (K : Kt LT) (k : Nat) (L : xL) (st : List Value) (S : LT), nx (cod_law n xs) cut_law K (k + 1) 464 L st S = (O_iload 3 1) (nx (cod_law n xs) cut_law K k) 464 L st S) ∧
  (∀ (K : Kt LT) (k : Nat) (L : xL) (st : List Value) (S : LT), nx (cod_law n xs) cut_law K (k + 1) 465 L st S = (O_int 3 1) (nx (cod_law n xs) cut_law K k) 465 L st S) ∧
  (∀ (K : Kt LT) (k : Nat) (L : xL) (st : List Value) (S : LT), nx (cod_law n xs) cut_law K (k + 1) 466 L st S = (O_iadd) (nx (cod_law n xs) cut_law K k) 466 L st S) ∧
  (∀ (K : Kt LT) (k : Nat) (L : xL) (st : List Value) (S : LT), nx (cod_law n xs) cut_law K (k + 1) 467 L st S = (O_gald 1003 n xs) (nx (cod_law n xs) cut_law K k) 467 L st S) ∧
  (∀ (K : Kt LT) (k : Nat) (L : xL) (st : List Value) (S : LT), nx (cod_law n xs) cut_law K (k + 1) 468 L st S = (O_callV 3 0 (fun S : LT => S.1) (fun S F => (F, S.2)) (spG yX6_programme cX6_programme 4 (some .int) 4 fpW)) (nx (cod_law n xs) cut_law K k) 468 L st S) ∧
  (∀ (K : Kt LT) (k : Nat) (L : xL) (st : List Value) (S : LT), nx (cod_law n xs) cut_law K (k + 1) 471 L st S = (O_aload 2 1) (nx (cod_law n xs) cut_law K k) 471 L st S) ∧
  (∀ (K : Kt LT) (k : Nat) (L : xL) (st : List Value) (S : LT), nx (cod_law n xs) cut_law K (k + 1) 472 L st S = (O_aload 0 1) (nx (cod_law n xs) cut_law K k) 472 L st S) ∧
  (∀ (K : Kt LT) (k : Nat) (L : xL) (st : List Value) (S : LT), nx (cod_law n xs) cut_law K (k + 1) 473 L st S = (O_iload 3 1) (nx (cod_law n xs) cut_law K k) 473 L st S) ∧
  (∀ (K : Kt LT) (k : Nat) (L : xL) (st : List Value) (S : LT), nx (cod_law n xs) cut_law K (k + 1) 474 L st S = (O_int 1 1) (nx (cod_law n xs) cut_law K k) 474 L st S) ∧
  (∀ (K : Kt LT) (k : Nat) (L : xL) (st : List Value) (S : LT), nx (cod_law n xs) cut_law K (k + 1) 475 L st S = (O_iadd) (nx (cod_law n xs) cut_law K k) 475 L st S) ∧
  (∀ (K : Kt LT) (k : Nat) (L : xL) (st : List Value) (S : LT), nx (cod_law n xs) cut_law K (k + 1) 476 L st S = (O_gald 1003 n xs) (nx (cod_law n xs) cut_law K k) 476 L st S) ∧
  (∀ (K : Kt LT) (k : Nat) (L : xL) (st : List Value) (S : LT), nx (cod_law n xs) cut_law K (k + 1) 477 L st S = (O_aload 0 1) (nx (cod_law n xs) cut_law K k) 477 L st S) ∧
  (∀ (K : Kt LT) (k : Nat) (L : xL) (st : List Value) (S : LT), nx (cod_law n xs) cut_law K (k + 1) 478 L st S = (O_iload 3 1) (nx (cod_law n xs) cut_law K k) 478 L st S) ∧
  (∀ (K : Kt LT) (k : Nat) (L : xL) (st : List Value) (S : LT), nx (cod_law n xs) cut_law K (k + 1) 479 L st S = (O_int 2 1) (nx (cod_law n xs) cut_law K k) 479 L st S) ∧
  (∀ (K : Kt LT) (k : Nat) (L : xL) (st : List Value) (S : LT), nx (cod_law n xs) cut_law K (k + 1) 480 L st S = (O_iadd) (nx (cod_law n xs) cut_law K k) 480 L st S) ∧
  (∀ (K : Kt LT) (k : Nat) (L : xL) (st : List Value) (S : LT), nx (cod_law n xs) cut_law K (k + 1) 481 L st S = (O_gald 1003 n xs) (nx (cod_law n xs) cut_law K k) 481 L st S) ∧
  (∀ (K : Kt LT) (k : Nat) (L : xL) (st : List Value) (S : LT), nx (cod_law n xs) cut_law K (k + 1) 482 L st S = (O_aload 0 1) (nx (cod_law n xs) cut_law K k) 482 L st S) ∧
  (∀ (K : Kt LT) (k : Nat) (L : xL) (st : List Value) (S : LT), nx (cod_law n xs) cut_law K (k + 1) 483 L st S = (O_iload 3 1) (nx (cod_law n xs) cut_law K k) 483 L st S) ∧
  (∀ (K : Kt LT) (k : Nat) (L : xL) (st : List Value) (S : LT), nx (cod_law n xs) cut_law K (k + 1) 484 L st S = (O_int 3 1) (nx (cod_law n xs) cut_law K k) 484 L st S) ∧
  (∀ (K : Kt LT) (k : Nat) (L : xL) (st : List Value) (S : LT), nx (cod_law n xs) cut_law K (k + 1) 485 L st S = (O_iadd) (nx (cod_law n xs) cut_law K k) 485 L st S) ∧
  (∀ (K : Kt LT) (k : Nat) (L : xL) (st : List Value) (S : LT), nx (cod_law n xs) cut_law K (k + 1) 486 L st S = (O_gald 1003 n xs) (nx (cod_law n xs) cut_law K k) 486 L st S) ∧
  (∀ (K : Kt LT) (k : Nat) (L : xL) (st : List Value) (S : LT), nx (cod_law n xs) cut_law K (k + 1) 487 L st S = (O_callV 3 148 (fun S : LT => S.2) (fun S q => (S.1, q)) (spG yX7_programme cX7_programme 5 (some .int) 2 aW)) (nx (cod_law n xs) cut_law K k) 487 L st S) ∧
  (∀ (K : Kt LT) (k : Nat) (L : xL) (st : List Value) (S : LT), nx (cod_law n xs) cut_law K (k + 1) 490 L st S = (O_icmp_eq 830) (nx (cod_law n xs) cut_law K k) 490 L st S) ∧
  (∀ (K : Kt LT) (k : Nat) (L : xL) (st : List Value) (S : LT), nx (cod_law n xs) cut_law K (k + 1) 493 L st S = (O_int 0 1) (nx (cod_law n xs) cut_law K k) 493 L st S) ∧
  (∀ (K : Kt LT) (k : Nat) (L : xL) (st : List Value) (S : LT), nx (cod_law n xs) cut_law K (k + 1) 495 L st S = K 495 L st S) ∧
  (∀ (K : Kt LT) (k : Nat) (L : xL) (st : List Value) (S : LT), nx1 (cod_law n xs) cut_law K k 495 L st S = (O_aload 1 1) (nx (cod_law n xs) cut_law K k) 495 L st S) ∧
  (∀ (K : Kt LT) (k : Nat) (L : xL) (st : List Value) (S : LT), nx (cod_law n xs) cut_law K (k + 1) 496 L st S = (O_aload 0 1) (nx (cod_law n xs) cut_law K k) 496 L st S) ∧
  (∀ (K : Kt LT) (k : Nat) (L : xL) (st : List Value) (S : LT), nx (cod_law n xs) cut_law K (k + 1) 497 L st S = (O_iload 3 1) (nx (cod_law n xs) cut_law K k) 497 L st S) ∧
  (∀ (K : Kt LT) (k : Nat) (L : xL) (st : List Value) (S : LT), nx (cod_law n xs) cut_law K (k + 1) 498 L st S = (O_int 1 1) (nx (cod_law n xs) cut_law K k) 498 L st S) ∧
  (∀ (K : Kt LT) (k : Nat) (L : xL) (st : List Value) (S : LT), nx (cod_law n xs) cut_law K (k + 1) 499 L st S = (O_iadd) (nx (cod_law n xs) cut_law K k) 499 L st S) ∧
  (∀ (K : Kt LT) (k : Nat) (L : xL) (st : List Value) (S : LT), nx (cod_law n xs) cut_law K (k + 1) 500 L st S = (O_gald 1003 n xs) (nx (cod_law n xs) cut_law K k) 500 L st S) ∧
  (∀ (K : Kt LT) (k : Nat) (L : xL) (st : List Value) (S : LT), nx (cod_law n xs) cut_law K (k + 1) 501 L st S = (O_aload 0 1) (nx (cod_law n xs) cut_law K k) 501 L st S) ∧
  (∀ (K : Kt LT) (k : Nat) (L : xL) (st : List Value) (S : LT), nx (cod_law n xs) cut_law K (k + 1) 502 L st S = (O_iload 3 1) (nx (cod_law n xs) cut_law K k) 502 L st S) ∧
  (∀ (K : Kt LT) (k : Nat) (L : xL) (st : List Value) (S : LT), nx (cod_law n xs) cut_law K (k + 1) 503 L st S = (O_int 2 1) (nx (cod_law n xs) cut_law K k) 503 L st S) ∧
  (∀ (K : Kt LT) (k : Nat) (L : xL) (st : List Value) (S : LT), nx (cod_law n xs) cut_law K (k + 1) 504 L st S = (O_iadd) (nx (cod_law n xs) cut_law K k) 504 L st S) ∧
  (∀ (K : Kt LT) (k : Nat) (L : xL) (st : List Value) (S : LT), nx (cod_law n xs) cut_law K (k + 1) 505 L st S = (O_gald 1003 n xs) (nx (cod_law n xs) cut_law K k) 505 L st S) ∧
  (∀ (K : Kt LT) (k : Nat) (L : xL) (st : List Value) (S : LT), nx (cod_law n xs) cut_law K (k + 1) 506 L st S = (O_callV 2 0 (fun S : LT => S.1) (fun S F => (F, S.2)) (spG yX6_zoneOf cX6_zoneOf 4 (some .int) 1 fpW)) (nx (cod_law n xs) cut_law K k) 506 L st S) ∧
  (∀ (K : Kt LT) (k : Nat) (L : xL) (st : List Value) (S : LT), nx (cod_law n xs) cut_law K (k + 1) 509 L st S = (O_aload 2 1) (nx (cod_law n xs) cut_law K k) 509 L st S) ∧
  (∀ (K : Kt LT) (k : Nat) (L : xL) (st : List Value) (S : LT), nx (cod_law n xs) cut_law K (k + 1) 510 L st S = (O_aload 0 1) (nx (cod_law n xs) cut_law K k) 510 L st S) ∧
  (∀ (K : Kt LT) (k : Nat) (L : xL) (st : List Value) (S : LT), nx (cod_law n xs) cut_law K (k + 1) 511 L st S = (O_iload 3 1) (nx (cod_law n xs) cut_law K k) 511 L st S) ∧
  (∀ (K : Kt LT) (k : Nat) (L : xL) (st : List Value) (S : LT), nx (cod_law n xs) cut_law K (k + 1) 512 L st S = (O_int 1 1) (nx (cod_law n xs) cut_law K k) 512 L st S) ∧
  (∀ (K : Kt LT) (k : Nat) (L : xL) (st : List Value) (S : LT), nx (cod_law n xs) cut_law K (k + 1) 513 L st S = (O_iadd) (nx (cod_law n xs) cut_law K k) 513 L st S) ∧
  (∀ (K : Kt LT) (k : Nat) (L : xL) (st : List Value) (S : LT), nx (cod_law n xs) cut_law K (k + 1) 514 L st S = (O_gald 1003 n xs) (nx (cod_law n xs) cut_law K k) 514 L st S) ∧
  (∀ (K : Kt LT) (k : Nat) (L : xL) (st : List Value) (S : LT), nx (cod_law n xs) cut_law K (k + 1) 515 L st S = (O_aload 0 1) (nx (cod_law n xs) cut_law K k) 515 L st S) ∧
  (∀ (K : Kt LT) (k : Nat) (L : xL) (st : List Value) (S : LT), nx (cod_law n xs) cut_law K (k + 1) 516 L st S = (O_iload 3 1) (nx (cod_law n xs) cut_law K k) 516 L st S) ∧
  (∀ (K : Kt LT) (k : Nat) (L : xL) (st : List Value) (S : LT), nx (cod_law n xs) cut_law K (k + 1) 517 L st S = (O_int 2 1) (nx (cod_law n xs) cut_law K k) 517 L st S) ∧
  (∀ (K : Kt LT) (k : Nat) (L : xL) (st : List Value) (S : LT), nx (cod_law n xs) cut_law K (k + 1) 518 L st S = (O_iadd) (nx (cod_law n xs) cut_law K k) 518 L st S) ∧
  (∀ (K : Kt LT) (k : Nat) (L : xL) (st : List Value) (S : LT), nx (cod_law n xs) cut_law K (k + 1) 519 L st S = (O_gald 1003 n xs) (nx (cod_law n xs) cut_law K k) 519 L st S) ∧
  (∀ (K : Kt LT) (k : Nat) (L : xL) (st : List Value) (S : LT), nx (cod_law n xs) cut_law K (k + 1) 520 L st S = (O_callV 2 148 (fun S : LT => S.2) (fun S q => (S.1, q)) (spG yX7_zoneOf cX7_zoneOf 5 (some .int) 2 aW)) (nx (cod_law n xs) cut_law K k) 520 L st S) ∧
  (∀ (K : Kt LT) (k : Nat) (L : xL) (st : List Value) (S : LT), nx (cod_law n xs) cut_law K (k + 1) 523 L st S = (O_icmp_eq 830) (nx (cod_law n xs) cut_law K k) 523 L st S) ∧
  (∀ (K : Kt LT) (k : Nat) (L : xL) (st : List Value) (S : LT), nx (cod_law n xs) cut_law K (k + 1) 526 L st S = (O_int 0 1) (nx (cod_law n xs) cut_law K k) 526 L st S) ∧
  (∀ (K : Kt LT) (k : Nat) (L : xL) (st : List Value) (S : LT), nx (cod_law n xs) cut_law K (k + 1) 528 L st S = K 528 L st S) ∧
  (∀ (K : Kt LT) (k : Nat) (L : xL) (st : List Value) (S : LT), nx1 (cod_law n xs) cut_law K k 528 L st S = (O_aload 1 1) (nx (cod_law n xs) cut_law K k) 528 L st S) ∧
  (∀ (K : Kt LT) (k : Nat) (L : xL) (st : List Value) (S : LT), nx (cod_law n xs) cut_law K (k + 1) 529 L st S = (O_aload 0 1) (nx (cod_law n xs) cut_law K k) 529 L st S) ∧
  (∀ (K : Kt LT) (k : Nat) (L : xL) (st : List Value) (S : LT), nx (cod_law n xs) cut_law K (k + 1) 530 L st S = (O_iload 3 1) (nx (cod_law n xs) cut_law K k) 530 L st S) ∧
  (∀ (K : Kt LT) (k : Nat) (L : xL) (st : List Value) (S : LT), nx (cod_law n xs) cut_law K (k + 1) 531 L st S = (O_int 1 1) (nx (cod_law n xs) cut_law K k) 531 L st S) ∧
  (∀ (K : Kt LT) (k : Nat) (L : xL) (st : List Value) (S : LT), nx (cod_law n xs) cut_law K (k + 1) 532 L st S = (O_iadd) (nx (cod_law n xs) cut_law K k) 532 L st S) ∧
  (∀ (K : Kt LT) (k : Nat) (L : xL) (st : List Value) (S : LT), nx (cod_law n xs) cut_law K (k + 1) 533 L st S = (O_gald 1003 n xs) (nx (cod_law n xs) cut_law K k) 533 L st S) ∧
  (∀ (K : Kt LT) (k : Nat) (L : xL) (st : List Value) (S : LT), nx (cod_law n xs) cut_law K (k + 1) 534 L st S = (O_callV 1 0 (fun S : LT => S.1) (fun S F => (F, S.2)) (spG yX6_fill cX6_fill 3 (some .int) 4 fpW)) (nx (cod_law n xs) cut_law K k) 534 L st S) ∧
  (∀ (K : Kt LT) (k : Nat) (L : xL) (st : List Value) (S : LT), nx (cod_law n xs) cut_law K (k + 1) 537 L st S = (O_aload 2 1) (nx (cod_law n xs) cut_law K k) 537 L st S) ∧
  (∀ (K : Kt LT) (k : Nat) (L : xL) (st : List Value) (S : LT), nx (cod_law n xs) cut_law K (k + 1) 538 L st S = (O_aload 0 1) (nx (cod_law n xs) cut_law K k) 538 L st S) ∧
  (∀ (K : Kt LT) (k : Nat) (L : xL) (st : List Value) (S : LT), nx (cod_law n xs) cut_law K (k + 1) 539 L st S = (O_iload 3 1) (nx (cod_law n xs) cut_law K k) 539 L st S) ∧
  (∀ (K : Kt LT) (k : Nat) (L : xL) (st : List Value) (S : LT), nx (cod_law n xs) cut_law K (k + 1) 540 L st S = (O_int 1 1) (nx (cod_law n xs) cut_law K k) 540 L st S) ∧
  (∀ (K : Kt LT) (k : Nat) (L : xL) (st : List Value) (S : LT), nx (cod_law n xs) cut_law K (k + 1) 541 L st S = (O_iadd) (nx (cod_law n xs) cut_law K k) 541 L st S) ∧
  (∀ (K : Kt LT) (k : Nat) (L : xL) (st : List Value) (S : LT), nx (cod_law n xs) cut_law K (k + 1) 542 L st S = (O_gald 1003 n xs) (nx (cod_law n xs) cut_law K k) 542 L st S) ∧
  (∀ (K : Kt LT) (k : Nat) (L : xL) (st : List Value) (S : LT), nx (cod_law n xs) cut_law K (k + 1) 543 L st S = (O_callV 1 148 (fun S : LT => S.2) (fun S q => (S.1, q)) (spG yX7_fill cX7_fill 3 (some .int) 1 aW)) (nx (cod_law n xs) cut_law K k) 543 L st S) ∧
  (∀ (K : Kt LT) (k : Nat) (L : xL) (st : List Value) (S : LT), nx (cod_law n xs) cut_law K (k + 1) 546 L st S = (O_icmp_eq 830) (nx (cod_law n xs) cut_law K k) 546 L st S) ∧
  (∀ (K : Kt LT) (k : Nat) (L : xL) (st : List Value) (S : LT), nx (cod_law n xs) cut_law K (k + 1) 549 L st S = (O_int 0 1) (nx (cod_law n xs) cut_law K k) 549 L st S) ∧
  (∀ (K : Kt LT) (k : Nat) (L : xL) (st : List Value) (S : LT), nx (cod_law n xs) cut_law K (k + 1) 551 L st S = K 551 L st S) ∧
  (∀ (K : Kt LT) (k : Nat) (L : xL) (st : List Value) (S : LT), nx1 (cod_law n xs) cut_law K k 551 L st S = (O_aload 1 1) (nx (cod_law n xs) cut_law K k) 551 L st S) ∧
  (∀ (K : Kt LT) (k : Nat) (L : xL) (st : List Value) (S : LT), nx (cod_law n xs) cut_law K (k + 1) 552 L st S = (O_callV 0 0 (fun S : LT => S.1) (fun S F => (F, S.2)) (spG yX6_reset cX6_reset 2 (some .int) 4 fpW)) (nx (cod_law n xs) cut_law K k) 552 L st S) ∧
  (∀ (K : Kt LT) (k : Nat) (L : xL) (st : List Value) (S : LT), nx (cod_law n xs) cut_law K (k + 1) 555 L st S = (O_aload 2 1) (nx (cod_law n xs) cut_law K k) 555 L st S) ∧
  (∀ (K : Kt LT) (k : Nat) (L : xL) (st : List Value) (S : LT), nx (cod_law n xs) cut_law K (k + 1) 556 L st S = (O_callV 0 148 (fun S : LT => S.2) (fun S q => (S.1, q)) (spG yX7_reset cX7_reset 1 (some .int) 2 aW)) (nx (cod_law n xs) cut_law K k) 556 L st S) ∧
  (∀ (K : Kt LT) (k : Nat) (L : xL) (st : List Value) (S : LT), nx (cod_law n xs) cut_law K (k + 1) 559 L st S = (O_icmp_eq 830) (nx (cod_law n xs) cut_law K k) 559 L st S) ∧
  (∀ (K : Kt LT) (k : Nat) (L : xL) (st : List Value) (S : LT), nx (cod_law n xs) cut_law K (k + 1) 562 L st S = (O_int 0 1) (nx (cod_law n xs) cut_law K k) 562 L st S) ∧
  (∀ (K : Kt LT) (k : Nat) (L : xL) (st : List Value) (S : LT), nx (cod_law n xs) cut_law K (k + 1) 564 L st S = K 564 L st S) ∧
  (∀ (K : Kt LT) (k : Nat) (L : xL) (st : List Value) (S : LT), nx1 (cod_law n xs) cut_law K k 564 L st S = (O_aload 1 1) (nx (cod_law n xs) cut_law K k) 564 L st S) ∧
  (∀ (K : Kt LT) (k : Nat) (L : xL) (st : List Value) (S : LT), nx (cod_law n xs) cut_law K (k + 1) 565 L st S = (O_aload 0 1) (nx (cod_law n xs) cut_law K k) 565 L st S) ∧
  (∀ (K : Kt LT) (k : Nat) (L : xL) (st : List Value) (S : LT), nx (cod_law n xs) cut_law K (k + 1) 566 L st S = (O_iload 3 1) (nx (cod_law n xs) cut_law K k) 566 L st S) ∧
  (∀ (K : Kt LT) (k : Nat) (L : xL) (st : List Value) (S : LT), nx (cod_law n xs) cut_law K (k + 1) 567 L st S = (O_int 1 1) (nx (cod_law n xs) cut_law K k) 567 L st S) ∧
  (∀ (K : Kt LT) (k : Nat) (L : xL) (st : List Value) (S : LT), nx (cod_law n xs) cut_law K (k + 1) 568 L st S = (O_iadd) (nx (cod_law n xs) cut_law K k) 568 L st S) ∧
  (∀ (K : Kt LT) (k : Nat) (L : xL) (st : List Value) (S : LT), nx (cod_law n xs) cut_law K (k + 1) 569 L st S = (O_gald 1003 n xs) (nx (cod_law n xs) cut_law K k) 569 L st S) ∧
  (∀ (K : Kt LT) (k : Nat) (L : xL) (st : List Value) (S : LT), nx (cod_law n xs) cut_law K (k + 1) 570 L st S = (O_callV 1 0 (fun S : LT => S.1) (fun S F => (F, S.2)) (spG yX6_pass cX6_pass 3 (some .int) 5 fpW)) (nx (cod_law n xs) cut_law K k) 570 L st S) ∧
  (∀ (K : Kt LT) (k : Nat) (L : xL) (st : List Value) (S : LT), nx (cod_law n xs) cut_law K (k + 1) 573 L st S = (O_aload 2 1) (nx (cod_law n xs) cut_law K k) 573 L st S) ∧
  (∀ (K : Kt LT) (k : Nat) (L : xL) (st : List Value) (S : LT), nx (cod_law n xs) cut_law K (k + 1) 574 L st S = (O_aload 0 1) (nx (cod_law n xs) cut_law K k) 574 L st S) ∧
  (∀ (K : Kt LT) (k : Nat) (L : xL) (st : List Value) (S : LT), nx (cod_law n xs) cut_law K (k + 1) 575 L st S = (O_iload 3 1) (nx (cod_law n xs) cut_law K k) 575 L st S) ∧
  (∀ (K : Kt LT) (k : Nat) (L : xL) (st : List Value) (S : LT), nx (cod_law n xs) cut_law K (k + 1) 576 L st S = (O_int 1 1) (nx (cod_law n xs) cut_law K k) 576 L st S) ∧
  (∀ (K : Kt LT) (k : Nat) (L : xL) (st : List Value) (S : LT), nx (cod_law n xs) cut_law K (k + 1) 577 L st S = (O_iadd) (nx (cod_law n xs) cut_law K k) 577 L st S) ∧
  (∀ (K : Kt LT) (k : Nat) (L : xL) (st : List Value) (S : LT), nx (cod_law n xs) cut_law K (k + 1) 578 L st S = (O_gald 1003 n xs) (nx (cod_law n xs) cut_law K k) 578 L st S) ∧
  (∀ (K : Kt LT) (k : Nat) (L : xL) (st : List Value) (S : LT), nx (cod_law n xs) cut_law K (k + 1) 579 L st S = (O_callV 1 148 (fun S : LT => S.2) (fun S q => (S.1, q)) (spG yX7_pass cX7_pass 3 (some .int) 8 aW)) (nx (cod_law n xs) cut_law K k) 579 L st S) ∧
  (∀ (K : Kt LT) (k : Nat) (L : xL) (st : List Value) (S : LT), nx (cod_law n xs) cut_law K (k + 1) 582 L st S = (O_icmp_eq 830) (nx (cod_law n xs) cut_law K k) 582 L st S) ∧
  (∀ (K : Kt LT) (k : Nat) (L : xL) (st : List Value) (S : LT), nx (cod_law n xs) cut_law K (k + 1) 585 L st S = (O_int 0 1) (nx (cod_law n xs) cut_law K k) 585 L st S) ∧
  (∀ (K : Kt LT) (k : Nat) (L : xL) (st : List Value) (S : LT), nx (cod_law n xs) cut_law K (k + 1) 587 L st S = K 587 L st S) ∧
  (∀ (K : Kt LT) (k : Nat) (L : xL) (st : List Value) (S : LT), nx1 (cod_law n xs) cut_law K k 587 L st S = (O_aload 1 1) (nx (cod_law n xs) cut_law K k) 587 L st S) ∧
  (∀ (K : Kt LT) (k : Nat) (L : xL) (st : List Value) (S : LT), nx (cod_law n xs) cut_law K (k + 1) 588 L st S = (O_aload 0 1) (nx (cod_law n xs) cut_law K k) 588 L st S) ∧
  (∀ (K : Kt LT) (k : Nat) (L : xL) (st : List Value) (S : LT), nx (cod_law n xs) cut_law K (k + 1) 589 L st S = (O_iload 3 1) (nx (cod_law n xs) cut_law K k) 589 L st S) ∧
  (∀ (K : Kt LT) (k : Nat) (L : xL) (st : List Value) (S : LT), nx (cod_law n xs) cut_law K (k + 1) 590 L st S = (O_int 1 1) (nx (cod_law n xs) cut_law K k) 590 L st S) ∧
  (∀ (K : Kt LT) (k : Nat) (L : xL) (st : List Value) (S : LT), nx (cod_law n xs) cut_law K (k + 1) 591 L st S = (O_iadd) (nx (cod_law n xs) cut_law K k) 591 L st S) ∧
  (∀ (K : Kt LT) (k : Nat) (L : xL) (st : List Value) (S : LT), nx (cod_law n xs) cut_law K (k + 1) 592 L st S = (O_gald 1003 n xs) (nx (cod_law n xs) cut_law K k) 592 L st S) ∧
  (∀ (K : Kt LT) (k : Nat) (L : xL) (st : List Value) (S : LT), nx (cod_law n xs) cut_law K (k + 1) 593 L st S = (O_aload 0 1) (nx (cod_law n xs) cut_law K k) 593 L st S) ∧
  (∀ (K : Kt LT) (k : Nat) (L : xL) (st : List Value) (S : LT), nx (cod_law n xs) cut_law K (k + 1) 594 L st S = (O_iload 3 1) (nx (cod_law n xs) cut_law K k) 594 L st S) ∧
  (∀ (K : Kt LT) (k : Nat) (L : xL) (st : List Value) (S : LT), nx (cod_law n xs) cut_law K (k + 1) 595 L st S = (O_int 2 1) (nx (cod_law n xs) cut_law K k) 595 L st S) ∧
  (∀ (K : Kt LT) (k : Nat) (L : xL) (st : List Value) (S : LT), nx (cod_law n xs) cut_law K (k + 1) 596 L st S = (O_iadd) (nx (cod_law n xs) cut_law K k) 596 L st S) ∧
  (∀ (K : Kt LT) (k : Nat) (L : xL) (st : List Value) (S : LT), nx (cod_law n xs) cut_law K (k + 1) 597 L st S = (O_gald 1003 n xs) (nx (cod_law n xs) cut_law K k) 597 L st S) ∧
  (∀ (K : Kt LT) (k : Nat) (L : xL) (st : List Value) (S : LT), nx (cod_law n xs) cut_law K (k + 1) 598 L st S = (O_callV 2 0 (fun S : LT => S.1) (fun S F => (F, S.2)) (spG yX6_foresee cX6_foresee 4 (some .int) 5 fpW)) (nx (cod_law n xs) cut_law K k) 598 L st S) ∧
  (∀ (K : Kt LT) (k : Nat) (L : xL) (st : List Value) (S : LT), nx (cod_law n xs) cut_law K (k + 1) 601 L st S = (O_aload 2 1) (nx (cod_law n xs) cut_law K k) 601 L st S) ∧
  (∀ (K : Kt LT) (k : Nat) (L : xL) (st : List Value) (S : LT), nx (cod_law n xs) cut_law K (k + 1) 602 L st S = (O_aload 0 1) (nx (cod_law n xs) cut_law K k) 602 L st S) ∧
  (∀ (K : Kt LT) (k : Nat) (L : xL) (st : List Value) (S : LT), nx (cod_law n xs) cut_law K (k + 1) 603 L st S = (O_iload 3 1) (nx (cod_law n xs) cut_law K k) 603 L st S) ∧
  (∀ (K : Kt LT) (k : Nat) (L : xL) (st : List Value) (S : LT), nx (cod_law n xs) cut_law K (k + 1) 604 L st S = (O_int 1 1) (nx (cod_law n xs) cut_law K k) 604 L st S) ∧
  (∀ (K : Kt LT) (k : Nat) (L : xL) (st : List Value) (S : LT), nx (cod_law n xs) cut_law K (k + 1) 605 L st S = (O_iadd) (nx (cod_law n xs) cut_law K k) 605 L st S) ∧
  (∀ (K : Kt LT) (k : Nat) (L : xL) (st : List Value) (S : LT), nx (cod_law n xs) cut_law K (k + 1) 606 L st S = (O_gald 1003 n xs) (nx (cod_law n xs) cut_law K k) 606 L st S) ∧
  (∀ (K : Kt LT) (k : Nat) (L : xL) (st : List Value) (S : LT), nx (cod_law n xs) cut_law K (k + 1) 607 L st S = (O_aload 0 1) (nx (cod_law n xs) cut_law K k) 607 L st S) ∧
  (∀ (K : Kt LT) (k : Nat) (L : xL) (st : List Value) (S : LT), nx (cod_law n xs) cut_law K (k + 1) 608 L st S = (O_iload 3 1) (nx (cod_law n xs) cut_law K k) 608 L st S) ∧
  (∀ (K : Kt LT) (k : Nat) (L : xL) (st : List Value) (S : LT), nx (cod_law n xs) cut_law K (k + 1) 609 L st S = (O_int 2 1) (nx (cod_law n xs) cut_law K k) 609 L st S) ∧
  (∀ (K : Kt LT) (k : Nat) (L : xL) (st : List Value) (S : LT), nx (cod_law n xs) cut_law K (k + 1) 610 L st S = (O_iadd) (nx (cod_law n xs) cut_law K k) 610 L st S) ∧
  (∀ (K : Kt LT) (k : Nat) (L : xL) (st : List Value) (S : LT), nx (cod_law n xs) cut_law K (k + 1) 611 L st S = (O_gald 1003 n xs) (nx (cod_law n xs) cut_law K k) 611 L st S) ∧
  (∀ (K : Kt LT) (k : Nat) (L : xL) (st : List Value) (S : LT), nx (cod_law n xs) cut_law K (k + 1) 612 L st S = (O_callV 2 148 (fun S : LT => S.2) (fun S q => (S.1, q)) (spG yX7_foresee cX7_foresee 4 (some .int) 8 aW)) (nx (cod_law n xs) cut_law K k) 612 L st S) ∧
  (∀ (K : Kt LT) (k : Nat) (L : xL) (st : List Value) (S : LT), nx (cod_law n xs) cut_law K (k + 1) 615 L st S = (O_icmp_eq 830) (nx (cod_law n xs) cut_law K k) 615 L st S) ∧
  (∀ (K : Kt LT) (k : Nat) (L : xL) (st : List Value) (S : LT), nx (cod_law n xs) cut_law K (k + 1) 618 L st S = (O_int 0 1) (nx (cod_law n xs) cut_law K k) 618 L st S) ∧
  (∀ (K : Kt LT) (k : Nat) (L : xL) (st : List Value) (S : LT), nx (cod_law n xs) cut_law K (k + 1) 620 L st S = K 620 L st S) ∧
  (∀ (K : Kt LT) (k : Nat) (L : xL) (st : List Value) (S : LT), nx1 (cod_law n xs) cut_law K k 620 L st S = (O_aload 1 1) (nx (cod_law n xs) cut_law K k) 620 L st S) ∧
  (∀ (K : Kt LT) (k : Nat) (L : xL) (st : List Value) (S : LT), nx (cod_law n xs) cut_law K (k + 1) 621 L st S = (O_aload 0 1) (nx (cod_law n xs) cut_law K k) 621 L st S) ∧
  (∀ (K : Kt LT) (k : Nat) (L : xL) (st : List Value) (S : LT), nx (cod_law n xs) cut_law K (k + 1) 622 L st S = (O_iload 3 1) (nx (cod_law n xs) cut_law K k) 622 L st S) ∧
  (∀ (K : Kt LT) (k : Nat) (L : xL) (st : List Value) (S : LT), nx (cod_law n xs) cut_law K (k + 1) 623 L st S = (O_int 1 1) (nx (cod_law n xs) cut_law K k) 623 L st S) ∧
  (∀ (K : Kt LT) (k : Nat) (L : xL) (st : List Value) (S : LT), nx (cod_law n xs) cut_law K (k + 1) 624 L st S = (O_iadd) (nx (cod_law n xs) cut_law K k) 624 L st S) ∧
  (∀ (K : Kt LT) (k : Nat) (L : xL) (st : List Value) (S : LT), nx (cod_law n xs) cut_law K (k + 1) 625 L st S = (O_gald 1003 n xs) (nx (cod_law n xs) cut_law K k) 625 L st S) ∧
  (∀ (K : Kt LT) (k : Nat) (L : xL) (st : List Value) (S : LT), nx (cod_law n xs) cut_law K (k + 1) 626 L st S = (O_callV 1 0 (fun S : LT => S.1) (fun S F => (F, S.2)) (spG yX6_foreseeEvent cX6_foreseeEvent 3 (some .int) 5 fpW)) (nx (cod_law n xs) cut_law K k) 626 L st S) ∧
  (∀ (K : Kt LT) (k : Nat) (L : xL) (st : List Value) (S : LT), nx (cod_law n xs) cut_law K (k + 1) 629 L st S = (O_aload 2 1) (nx (cod_law n xs) cut_law K k) 629 L st S) ∧
  (∀ (K : Kt LT) (k : Nat) (L : xL) (st : List Value) (S : LT), nx (cod_law n xs) cut_law K (k + 1) 630 L st S = (O_aload 0 1) (nx (cod_law n xs) cut_law K k) 630 L st S) ∧
  (∀ (K : Kt LT) (k : Nat) (L : xL) (st : List Value) (S : LT), nx (cod_law n xs) cut_law K (k + 1) 631 L st S = (O_iload 3 1) (nx (cod_law n xs) cut_law K k) 631 L st S) ∧
  (∀ (K : Kt LT) (k : Nat) (L : xL) (st : List Value) (S : LT), nx (cod_law n xs) cut_law K (k + 1) 632 L st S = (O_int 1 1) (nx (cod_law n xs) cut_law K k) 632 L st S) ∧
  (∀ (K : Kt LT) (k : Nat) (L : xL) (st : List Value) (S : LT), nx (cod_law n xs) cut_law K (k + 1) 633 L st S = (O_iadd) (nx (cod_law n xs) cut_law K k) 633 L st S) ∧
  (∀ (K : Kt LT) (k : Nat) (L : xL) (st : List Value) (S : LT), nx (cod_law n xs) cut_law K (k + 1) 634 L st S = (O_gald 1003 n xs) (nx (cod_law n xs) cut_law K k) 634 L st S) ∧
  (∀ (K : Kt LT) (k : Nat) (L : xL) (st : List Value) (S : LT), nx (cod_law n xs) cut_law K (k + 1) 635 L st S = (O_callV 1 148 (fun S : LT => S.2) (fun S q => (S.1, q)) (spG yX7_foreseeEvent cX7_foreseeEvent 3 (some .int) 7 aW)) (nx (cod_law n xs) cut_law K k) 635 L st S) ∧
  (∀ (K : Kt LT) (k : Nat) (L : xL) (st : List Value) (S : LT), nx (cod_law n xs) cut_law K (k + 1) 638 L st S = (O_icmp_eq 830) (nx (cod_law n xs) cut_law K k) 638 L st S) ∧
  (∀ (K : Kt LT) (k : Nat) (L : xL) (st : List Value) (S : LT), nx (cod_law n xs) cut_law K (k + 1) 641 L st S = (O_int 0 1) (nx (cod_law n xs) cut_law K k) 641 L st S) ∧
  (∀ (K : Kt LT) (k : Nat) (L : xL) (st : List Value) (S : LT), nx (cod_law n xs) cut_law K (k + 1) 643 L st S = K 643 L st S) ∧
  (∀ (K : Kt LT) (k : Nat) (L : xL) (st : List Value) (S : LT), nx1 (cod_law n xs) cut_law K k 643 L st S = (O_aload 1 1) (nx (cod_law n xs) cut_law K k) 643 L st S) ∧
  (∀ (K : Kt LT) (k : Nat) (L : xL) (st : List Value) (S : LT), nx (cod_law n xs) cut_law K (k + 1) 644 L st S = (O_aload 0 1) (nx (cod_law n xs) cut_law K k) 644 L st S) ∧
  (∀ (K : Kt LT) (k : Nat) (L : xL) (st : List Value) (S : LT), nx (cod_law n xs) cut_law K (k + 1) 645 L st S = (O_iload 3 1) (nx (cod_law n xs) cut_law K k) 645 L st S) ∧
  (∀ (K : Kt LT) (k : Nat) (L : xL) (st : List Value) (S : LT), nx (cod_law n xs) cut_law K (k + 1) 646 L st S = (O_int 1 1) (nx (cod_law n xs) cut_law K k) 646 L st S) ∧
  (∀ (K : Kt LT) (k : Nat) (L : xL) (st : List Value) (S : LT), nx (cod_law n xs) cut_law K (k + 1) 647 L st S = (O_iadd) (nx (cod_law n xs) cut_law K k) 647 L st S) ∧
  (∀ (K : Kt LT) (k : Nat) (L : xL) (st : List Value) (S : LT), nx (cod_law n xs) cut_law K (k + 1) 648 L st S = (O_gald 1003 n xs) (nx (cod_law n xs) cut_law K k) 648 L st S) ∧
  (∀ (K : Kt LT) (k : Nat) (L : xL) (st : List Value) (S : LT), nx (cod_law n xs) cut_law K (k + 1) 649 L st S = (O_callV 1 0 (fun S : LT => S.1) (fun S F => (F, S.2)) (spG yX6_station cX6_station 2 (some .int) 3 fpW)) (nx (cod_law n xs) cut_law K k) 649 L st S) ∧
  (∀ (K : Kt LT) (k : Nat) (L : xL) (st : List Value) (S : LT), nx (cod_law n xs) cut_law K (k + 1) 652 L st S = (O_aload 2 1) (nx (cod_law n xs) cut_law K k) 652 L st S) ∧
  (∀ (K : Kt LT) (k : Nat) (L : xL) (st : List Value) (S : LT), nx (cod_law n xs) cut_law K (k + 1) 653 L st S = (O_aload 0 1) (nx (cod_law n xs) cut_law K k) 653 L st S) ∧
  (∀ (K : Kt LT) (k : Nat) (L : xL) (st : List Value) (S : LT), nx (cod_law n xs) cut_law K (k + 1) 654 L st S = (O_iload 3 1) (nx (cod_law n xs) cut_law K k) 654 L st S) ∧
  (∀ (K : Kt LT) (k : Nat) (L : xL) (st : List Value) (S : LT), nx (cod_law n xs) cut_law K (k + 1) 655 L st S = (O_int 1 1) (nx (cod_law n xs) cut_law K k) 655 L st S) ∧
  (∀ (K : Kt LT) (k : Nat) (L : xL) (st : List Value) (S : LT), nx (cod_law n xs) cut_law K (k + 1) 656 L st S = (O_iadd) (nx (cod_law n xs) cut_law K k) 656 L st S) ∧
  (∀ (K : Kt LT) (k : Nat) (L : xL) (st : List Value) (S : LT), nx (cod_law n xs) cut_law K (k + 1) 657 L st S = (O_gald 1003 n xs) (nx (cod_law n xs) cut_law K k) 657 L st S) ∧
  (∀ (K : Kt LT) (k : Nat) (L : xL) (st : List Value) (S : LT), nx (cod_law n xs) cut_law K (k + 1) 658 L st S = (O_callV 1 148 (fun S : LT => S.2) (fun S q => (S.1, q)) (spG yX7_station cX7_station 2 (some .int) 3 aW)) (nx (cod_law n xs) cut_law K k) 658 L st S) ∧
  (∀ (K : Kt LT) (k : Nat) (L : xL) (st : List Value) (S : LT), nx (cod_law n xs) cut_law K (k + 1) 661 L st S = (O_icmp_eq 830) (nx (cod_law n xs) cut_law K k) 661 L st S) ∧
  (∀ (K : Kt LT) (k : Nat) (L : xL) (st : List Value) (S : LT), nx (cod_law n xs) cut_law K (k + 1) 664 L st S = (O_int 0 1) (nx (cod_law n xs) cut_law K k) 664 L st S) ∧
  (∀ (K : Kt LT) (k : Nat) (L : xL) (st : List Value) (S : LT), nx (cod_law n xs) cut_law K (k + 1) 666 L st S = K 666 L st S) ∧
  (∀ (K : Kt LT) (k : Nat) (L : xL) (st : List Value) (S : LT), nx1 (cod_law n xs) cut_law K k 666 L st S = (O_aload 1 1) (nx (cod_law n xs) cut_law K k) 666 L st S) ∧
  (∀ (K : Kt LT) (k : Nat) (L : xL) (st : List Value) (S : LT), nx (cod_law n xs) cut_law K (k + 1) 667 L st S = (O_aload 0 1) (nx (cod_law n xs) cut_law K k) 667 L st S) ∧
  (∀ (K : Kt LT) (k : Nat) (L : xL) (st : List Value) (S : LT), nx (cod_law n xs) cut_law K (k + 1) 668 L st S = (O_iload 3 1) (nx (cod_law n xs) cut_law K k) 668 L st S) ∧
  (∀ (K : Kt LT) (k : Nat) (L : xL) (st : List Value) (S : LT), nx (cod_law n xs) cut_law K (k + 1) 669 L st S = (O_int 1 1) (nx (cod_law n xs) cut_law K k) 669 L st S) ∧
  (∀ (K : Kt LT) (k : Nat) (L : xL) (st : List Value) (S : LT), nx (cod_law n xs) cut_law K (k + 1) 670 L st S = (O_iadd) (nx (cod_law n xs) cut_law K k) 670 L st S) ∧
  (∀ (K : Kt LT) (k : Nat) (L : xL) (st : List Value) (S : LT), nx (cod_law n xs) cut_law K (k + 1) 671 L st S = (O_gald 1003 n xs) (nx (cod_law n xs) cut_law K k) 671 L st S) ∧
  (∀ (K : Kt LT) (k : Nat) (L : xL) (st : List Value) (S : LT), nx (cod_law n xs) cut_law K (k + 1) 672 L st S = (O_callV 1 0 (fun S : LT => S.1) (fun S F => (F, S.2)) (spG yX6_nightAt cX6_nightAt 2 (some .int) 1 fpW)) (nx (cod_law n xs) cut_law K k) 672 L st S) ∧
  (∀ (K : Kt LT) (k : Nat) (L : xL) (st : List Value) (S : LT), nx (cod_law n xs) cut_law K (k + 1) 675 L st S = (O_aload 2 1) (nx (cod_law n xs) cut_law K k) 675 L st S) ∧
  (∀ (K : Kt LT) (k : Nat) (L : xL) (st : List Value) (S : LT), nx (cod_law n xs) cut_law K (k + 1) 676 L st S = (O_aload 0 1) (nx (cod_law n xs) cut_law K k) 676 L st S) ∧
  (∀ (K : Kt LT) (k : Nat) (L : xL) (st : List Value) (S : LT), nx (cod_law n xs) cut_law K (k + 1) 677 L st S = (O_iload 3 1) (nx (cod_law n xs) cut_law K k) 677 L st S) ∧
  (∀ (K : Kt LT) (k : Nat) (L : xL) (st : List Value) (S : LT), nx (cod_law n xs) cut_law K (k + 1) 678 L st S = (O_int 1 1) (nx (cod_law n xs) cut_law K k) 678 L st S) ∧
  (∀ (K : Kt LT) (k : Nat) (L : xL) (st : List Value) (S : LT), nx (cod_law n xs) cut_law K (k + 1) 679 L st S = (O_iadd) (nx (cod_law n xs) cut_law K k) 679 L st S) ∧
  (∀ (K : Kt LT) (k : Nat) (L : xL) (st : List Value) (S : LT), nx (cod_law n xs) cut_law K (k + 1) 680 L st S = (O_gald 1003 n xs) (nx (cod_law n xs) cut_law K k) 680 L st S) ∧
  (∀ (K : Kt LT) (k : Nat) (L : xL) (st : List Value) (S : LT), nx (cod_law n xs) cut_law K (k + 1) 681 L st S = (O_callV 1 148 (fun S : LT => S.2) (fun S q => (S.1, q)) (spG yX7_nightAt cX7_nightAt 2 (some .int) 0 aW)) (nx (cod_law n xs) cut_law K k) 681 L st S) ∧
  (∀ (K : Kt LT) (k : Nat) (L : xL) (st : List Value) (S : LT), nx (cod_law n xs) cut_law K (k + 1) 684 L st S = (O_icmp_eq 830) (nx (cod_law n xs) cut_law K k) 684 L st S) ∧
  (∀ (K : Kt LT) (k : Nat) (L : xL) (st : List Value) (S : LT), nx (cod_law n xs) cut_law K (k + 1) 687 L st S = (O_int 0 1) (nx (cod_law n xs) cut_law K k) 687 L st S) ∧
  (∀ (K : Kt LT) (k : Nat) (L : xL) (st : List Value) (S : LT), nx (cod_law n xs) cut_law K (k + 1) 689 L st S = K 689 L st S) ∧
  (∀ (K : Kt LT) (k : Nat) (L : xL) (st : List Value) (S : LT), nx1 (cod_law n xs) cut_law K k 689 L st S = (O_aload 1 1) (nx (cod_law n xs) cut_law K k) 689 L st S) ∧
  (∀ (K : Kt LT) (k : Nat) (L : xL) (st : List Value) (S : LT), nx (cod_law n xs) cut_law K (k + 1) 690 L st S = (O_aload 0 1) (nx (cod_law n xs) cut_law K k) 690 L st S) ∧
  (∀ (K : Kt LT) (k : Nat) (L : xL) (st : List Value) (S : LT), nx (cod_law n xs) cut_law K (k + 1) 691 L st S = (O_iload 3 1) (nx (cod_law n xs) cut_law K k) 691 L st S) ∧
  (∀ (K : Kt LT) (k : Nat) (L : xL) (st : List Value) (S : LT), nx (cod_law n xs) cut_law K (k + 1) 692 L st S = (O_int 1 1) (nx (cod_law n xs) cut_law K k) 692 L st S) ∧
  (∀ (K : Kt LT) (k : Nat) (L : xL) (st : List Value) (S : LT), nx (cod_law n xs) cut_law K (k + 1) 693 L st S = (O_iadd) (nx (cod_law n xs) cut_law K k) 693 L st S) ∧
  (∀ (K : Kt LT) (k : Nat) (L : xL) (st : List Value) (S : LT), nx (cod_law n xs) cut_law K (k + 1) 694 L st S = (O_gald 1003 n xs) (nx (cod_law n xs) cut_law K k) 694 L st S) ∧
  (∀ (K : Kt LT) (k : Nat) (L : xL) (st : List Value) (S : LT), nx (cod_law n xs) cut_law K (k + 1) 695 L st S = (O_aload 0 1) (nx (cod_law n xs) cut_law K k) 695 L st S) ∧
  (∀ (K : Kt LT) (k : Nat) (L : xL) (st : List Value) (S : LT), nx (cod_law n xs) cut_law K (k + 1) 696 L st S = (O_iload 3 1) (nx (cod_law n xs) cut_law K k) 696 L st S) ∧
  (∀ (K : Kt LT) (k : Nat) (L : xL) (st : List Value) (S : LT), nx (cod_law n xs) cut_law K (k + 1) 697 L st S = (O_int 2 1) (nx (cod_law n xs) cut_law K k) 697 L st S) ∧
  (∀ (K : Kt LT) (k : Nat) (L : xL) (st : List Value) (S : LT), nx (cod_law n xs) cut_law K (k + 1) 698 L st S = (O_iadd) (nx (cod_law n xs) cut_law K k) 698 L st S) ∧
  (∀ (K : Kt LT) (k : Nat) (L : xL) (st : List Value) (S : LT), nx (cod_law n xs) cut_law K (k + 1) 699 L st S = (O_gald 1003 n xs) (nx (cod_law n xs) cut_law K k) 699 L st S) ∧
  (∀ (K : Kt LT) (k : Nat) (L : xL) (st : List Value) (S : LT), nx (cod_law n xs) cut_law K (k + 1) 700 L st S = (O_callV 2 0 (fun S : LT => S.1) (fun S F => (F, S.2)) (spG yX6_eventAt cX6_eventAt 5 (some .int) 3 fpW)) (nx (cod_law n xs) cut_law K k) 700 L st S) ∧
  (∀ (K : Kt LT) (k : Nat) (L : xL) (st : List Value) (S : LT), nx (cod_law n xs) cut_law K (k + 1) 703 L st S = (O_aload 2 1) (nx (cod_law n xs) cut_law K k) 703 L st S) ∧
  (∀ (K : Kt LT) (k : Nat) (L : xL) (st : List Value) (S : LT), nx (cod_law n xs) cut_law K (k + 1) 704 L st S = (O_aload 0 1) (nx (cod_law n xs) cut_law K k) 704 L st S) ∧
  (∀ (K : Kt LT) (k : Nat) (L : xL) (st : List Value) (S : LT), nx (cod_law n xs) cut_law K (k + 1) 705 L st S = (O_iload 3 1) (nx (cod_law n xs) cut_law K k) 705 L st S) ∧
  (∀ (K : Kt LT) (k : Nat) (L : xL) (st : List Value) (S : LT), nx (cod_law n xs) cut_law K (k + 1) 706 L st S = (O_int 1 1) (nx (cod_law n xs) cut_law K k) 706 L st S) ∧
  (∀ (K : Kt LT) (k : Nat) (L : xL) (st : List Value) (S : LT), nx (cod_law n xs) cut_law K (k + 1) 707 L st S = (O_iadd) (nx (cod_law n xs) cut_law K k) 707 L st S) ∧
  (∀ (K : Kt LT) (k : Nat) (L : xL) (st : List Value) (S : LT), nx (cod_law n xs) cut_law K (k + 1) 708 L st S = (O_gald 1003 n xs) (nx (cod_law n xs) cut_law K k) 708 L st S) ∧
  (∀ (K : Kt LT) (k : Nat) (L : xL) (st : List Value) (S : LT), nx (cod_law n xs) cut_law K (k + 1) 709 L st S = (O_aload 0 1) (nx (cod_law n xs) cut_law K k) 709 L st S) ∧
  (∀ (K : Kt LT) (k : Nat) (L : xL) (st : List Value) (S : LT), nx (cod_law n xs) cut_law K (k + 1) 710 L st S = (O_iload 3 1) (nx (cod_law n xs) cut_law K k) 710 L st S) ∧
  (∀ (K : Kt LT) (k : Nat) (L : xL) (st : List Value) (S : LT), nx (cod_law n xs) cut_law K (k + 1) 711 L st S = (O_int 2 1) (nx (cod_law n xs) cut_law K k) 711 L st S) ∧
  (∀ (K : Kt LT) (k : Nat) (L : xL) (st : List Value) (S : LT), nx (cod_law n xs) cut_law K (k + 1) 712 L st S = (O_iadd) (nx (cod_law n xs) cut_law K k) 712 L st S) ∧
  (∀ (K : Kt LT) (k : Nat) (L : xL) (st : List Value) (S : LT), nx (cod_law n xs) cut_law K (k + 1) 713 L st S = (O_gald 1003 n xs) (nx (cod_law n xs) cut_law K k) 713 L st S) ∧
  (∀ (K : Kt LT) (k : Nat) (L : xL) (st : List Value) (S : LT), nx (cod_law n xs) cut_law K (k + 1) 714 L st S = (O_callV 2 148 (fun S : LT => S.2) (fun S q => (S.1, q)) (spG yX7_eventAt cX7_eventAt 4 (some .int) 1 aW)) (nx (cod_law n xs) cut_law K k) 714 L st S) ∧
  (∀ (K : Kt LT) (k : Nat) (L : xL) (st : List Value) (S : LT), nx (cod_law n xs) cut_law K (k + 1) 717 L st S = (O_icmp_eq 830) (nx (cod_law n xs) cut_law K k) 717 L st S) ∧
  (∀ (K : Kt LT) (k : Nat) (L : xL) (st : List Value) (S : LT), nx (cod_law n xs) cut_law K (k + 1) 720 L st S = (O_int 0 1) (nx (cod_law n xs) cut_law K k) 720 L st S) ∧
  (∀ (K : Kt LT) (k : Nat) (L : xL) (st : List Value) (S : LT), nx (cod_law n xs) cut_law K (k + 1) 722 L st S = K 722 L st S) ∧
  (∀ (K : Kt LT) (k : Nat) (L : xL) (st : List Value) (S : LT), nx1 (cod_law n xs) cut_law K k 722 L st S = (O_aload 1 1) (nx (cod_law n xs) cut_law K k) 722 L st S) ∧
  (∀ (K : Kt LT) (k : Nat) (L : xL) (st : List Value) (S : LT), nx (cod_law n xs) cut_law K (k + 1) 723 L st S = (O_aload 0 1) (nx (cod_law n xs) cut_law K k) 723 L st S) ∧
  (∀ (K : Kt LT) (k : Nat) (L : xL) (st : List Value) (S : LT), nx (cod_law n xs) cut_law K (k + 1) 724 L st S = (O_iload 3 1) (nx (cod_law n xs) cut_law K k) 724 L st S) ∧
  (∀ (K : Kt LT) (k : Nat) (L : xL) (st : List Value) (S : LT), nx (cod_law n xs) cut_law K (k + 1) 725 L st S = (O_int 1 1) (nx (cod_law n xs) cut_law K k) 725 L st S) ∧
  (∀ (K : Kt LT) (k : Nat) (L : xL) (st : List Value) (S : LT), nx (cod_law n xs) cut_law K (k + 1) 726 L st S = (O_iadd) (nx (cod_law n xs) cut_law K k) 726 L st S) ∧
  (∀ (K : Kt LT) (k : Nat) (L : xL) (st : List Value) (S : LT), nx (cod_law n xs) cut_law K (k + 1) 727 L st S = (O_gald 1003 n xs) (nx (cod_law n xs) cut_law K k) 727 L st S) ∧
  (∀ (K : Kt LT) (k : Nat) (L : xL) (st : List Value) (S : LT), nx (cod_law n xs) cut_law K (k + 1) 728 L st S = (O_callV 1 0 (fun S : LT => S.1) (fun S F => (F, S.2)) (spG yX6_count cX6_count 2 (some .int) 2 fpW)) (nx (cod_law n xs) cut_law K k) 728 L st S) ∧
  (∀ (K : Kt LT) (k : Nat) (L : xL) (st : List Value) (S : LT), nx (cod_law n xs) cut_law K (k + 1) 731 L st S = (O_aload 2 1) (nx (cod_law n xs) cut_law K k) 731 L st S) ∧
  (∀ (K : Kt LT) (k : Nat) (L : xL) (st : List Value) (S : LT), nx (cod_law n xs) cut_law K (k + 1) 732 L st S = (O_aload 0 1) (nx (cod_law n xs) cut_law K k) 732 L st S) ∧
  (∀ (K : Kt LT) (k : Nat) (L : xL) (st : List Value) (S : LT), nx (cod_law n xs) cut_law K (k + 1) 733 L st S = (O_iload 3 1) (nx (cod_law n xs) cut_law K k) 733 L st S) ∧
  (∀ (K : Kt LT) (k : Nat) (L : xL) (st : List Value) (S : LT), nx (cod_law n xs) cut_law K (k + 1) 734 L st S = (O_int 1 1) (nx (cod_law n xs) cut_law K k) 734 L st S) ∧
  (∀ (K : Kt LT) (k : Nat) (L : xL) (st : List Value) (S : LT), nx (cod_law n xs) cut_law K (k + 1) 735 L st S = (O_iadd) (nx (cod_law n xs) cut_law K k) 735 L st S) ∧
  (∀ (K : Kt LT) (k : Nat) (L : xL) (st : List Value) (S : LT), nx (cod_law n xs) cut_law K (k + 1) 736 L st S = (O_gald 1003 n xs) (nx (cod_law n xs) cut_law K k) 736 L st S) ∧
  (∀ (K : Kt LT) (k : Nat) (L : xL) (st : List Value) (S : LT), nx (cod_law n xs) cut_law K (k + 1) 737 L st S = (O_callV 1 148 (fun S : LT => S.2) (fun S q => (S.1, q)) (spG yX7_count cX7_count 2 (some .int) 4 aW)) (nx (cod_law n xs) cut_law K k) 737 L st S) ∧
  (∀ (K : Kt LT) (k : Nat) (L : xL) (st : List Value) (S : LT), nx (cod_law n xs) cut_law K (k + 1) 740 L st S = (O_icmp_eq 830) (nx (cod_law n xs) cut_law K k) 740 L st S) ∧
  (∀ (K : Kt LT) (k : Nat) (L : xL) (st : List Value) (S : LT), nx (cod_law n xs) cut_law K (k + 1) 743 L st S = (O_int 0 1) (nx (cod_law n xs) cut_law K k) 743 L st S) ∧
  (∀ (K : Kt LT) (k : Nat) (L : xL) (st : List Value) (S : LT), nx (cod_law n xs) cut_law K (k + 1) 745 L st S = K 745 L st S) ∧
  (∀ (K : Kt LT) (k : Nat) (L : xL) (st : List Value) (S : LT), nx1 (cod_law n xs) cut_law K k 745 L st S = (O_aload 1 1) (nx (cod_law n xs) cut_law K k) 745 L st S) ∧
  (∀ (K : Kt LT) (k : Nat) (L : xL) (st : List Value) (S : LT), nx (cod_law n xs) cut_law K (k + 1) 746 L st S = (O_callV 0 0 (fun S : LT => S.1) (fun S F => (F, S.2)) (spG yX6_undo cX6_undo 1 (some .int) 3 fpW)) (nx (cod_law n xs) cut_law K k) 746 L st S) ∧
  (∀ (K : Kt LT) (k : Nat) (L : xL) (st : List Value) (S : LT), nx (cod_law n xs) cut_law K (k + 1) 749 L st S = (O_aload 2 1) (nx (cod_law n xs) cut_law K k) 749 L st S) ∧
  (∀ (K : Kt LT) (k : Nat) (L : xL) (st : List Value) (S : LT), nx (cod_law n xs) cut_law K (k + 1) 750 L st S = (O_callV 0 148 (fun S : LT => S.2) (fun S q => (S.1, q)) (spG yX7_undo cX7_undo 2 (some .int) 0 aW)) (nx (cod_law n xs) cut_law K k) 750 L st S) ∧
  (∀ (K : Kt LT) (k : Nat) (L : xL) (st : List Value) (S : LT), nx (cod_law n xs) cut_law K (k + 1) 753 L st S = (O_icmp_eq 830) (nx (cod_law n xs) cut_law K k) 753 L st S) ∧
  (∀ (K : Kt LT) (k : Nat) (L : xL) (st : List Value) (S : LT), nx (cod_law n xs) cut_law K (k + 1) 756 L st S = (O_int 0 1) (nx (cod_law n xs) cut_law K k) 756 L st S) ∧
  (∀ (K : Kt LT) (k : Nat) (L : xL) (st : List Value) (S : LT), nx (cod_law n xs) cut_law K (k + 1) 758 L st S = K 758 L st S) ∧
  (∀ (K : Kt LT) (k : Nat) (L : xL) (st : List Value) (S : LT), nx1 (cod_law n xs) cut_law K k 758 L st S = (O_aload 1 1) (nx (cod_law n xs) cut_law K k) 758 L st S) ∧
  (∀ (K : Kt LT) (k : Nat) (L : xL) (st : List Value) (S : LT), nx (cod_law n xs) cut_law K (k + 1) 759 L st S = (O_aload 0 1) (nx (cod_law n xs) cut_law K k) 759 L st S) ∧
  (∀ (K : Kt LT) (k : Nat) (L : xL) (st : List Value) (S : LT), nx (cod_law n xs) cut_law K (k + 1) 760 L st S = (O_iload 3 1) (nx (cod_law n xs) cut_law K k) 760 L st S) ∧
  (∀ (K : Kt LT) (k : Nat) (L : xL) (st : List Value) (S : LT), nx (cod_law n xs) cut_law K (k + 1) 761 L st S = (O_int 1 1) (nx (cod_law n xs) cut_law K k) 761 L st S) ∧
  (∀ (K : Kt LT) (k : Nat) (L : xL) (st : List Value) (S : LT), nx (cod_law n xs) cut_law K (k + 1) 762 L st S = (O_iadd) (nx (cod_law n xs) cut_law K k) 762 L st S) ∧
  (∀ (K : Kt LT) (k : Nat) (L : xL) (st : List Value) (S : LT), nx (cod_law n xs) cut_law K (k + 1) 763 L st S = (O_gald 1003 n xs) (nx (cod_law n xs) cut_law K k) 763 L st S) ∧
  (∀ (K : Kt LT) (k : Nat) (L : xL) (st : List Value) (S : LT), nx (cod_law n xs) cut_law K (k + 1) 764 L st S = (O_callV 1 0 (fun S : LT => S.1) (fun S F => (F, S.2)) (spG yX6_type cX6_type 2 (some .int) 1 fpW)) (nx (cod_law n xs) cut_law K k) 764 L st S) ∧
  (∀ (K : Kt LT) (k : Nat) (L : xL) (st : List Value) (S : LT), nx (cod_law n xs) cut_law K (k + 1) 767 L st S = (O_aload 2 1) (nx (cod_law n xs) cut_law K k) 767 L st S) ∧
  (∀ (K : Kt LT) (k : Nat) (L : xL) (st : List Value) (S : LT), nx (cod_law n xs) cut_law K (k + 1) 768 L st S = (O_aload 0 1) (nx (cod_law n xs) cut_law K k) 768 L st S) ∧
  (∀ (K : Kt LT) (k : Nat) (L : xL) (st : List Value) (S : LT), nx (cod_law n xs) cut_law K (k + 1) 769 L st S = (O_iload 3 1) (nx (cod_law n xs) cut_law K k) 769 L st S) ∧
  (∀ (K : Kt LT) (k : Nat) (L : xL) (st : List Value) (S : LT), nx (cod_law n xs) cut_law K (k + 1) 770 L st S = (O_int 1 1) (nx (cod_law n xs) cut_law K k) 770 L st S) ∧
  (∀ (K : Kt LT) (k : Nat) (L : xL) (st : List Value) (S : LT), nx (cod_law n xs) cut_law K (k + 1) 771 L st S = (O_iadd) (nx (cod_law n xs) cut_law K k) 771 L st S) ∧
  (∀ (K : Kt LT) (k : Nat) (L : xL) (st : List Value) (S : LT), nx (cod_law n xs) cut_law K (k + 1) 772 L st S = (O_gald 1003 n xs) (nx (cod_law n xs) cut_law K k) 772 L st S) ∧
  (∀ (K : Kt LT) (k : Nat) (L : xL) (st : List Value) (S : LT), nx (cod_law n xs) cut_law K (k + 1) 773 L st S = (O_callV 1 148 (fun S : LT => S.2) (fun S q => (S.1, q)) (spG yX7_type cX7_type 2 (some .int) 1 aW)) (nx (cod_law n xs) cut_law K k) 773 L st S) ∧
  (∀ (K : Kt LT) (k : Nat) (L : xL) (st : List Value) (S : LT), nx (cod_law n xs) cut_law K (k + 1) 776 L st S = (O_icmp_eq 830) (nx (cod_law n xs) cut_law K k) 776 L st S) ∧
  (∀ (K : Kt LT) (k : Nat) (L : xL) (st : List Value) (S : LT), nx (cod_law n xs) cut_law K (k + 1) 779 L st S = (O_int 0 1) (nx (cod_law n xs) cut_law K k) 779 L st S) ∧
  (∀ (K : Kt LT) (k : Nat) (L : xL) (st : List Value) (S : LT), nx (cod_law n xs) cut_law K (k + 1) 781 L st S = K 781 L st S) ∧
  (∀ (K : Kt LT) (k : Nat) (L : xL) (st : List Value) (S : LT), nx1 (cod_law n xs) cut_law K k 781 L st S = (O_aload 1 1) (nx (cod_law n xs) cut_law K k) 781 L st S) ∧
  (∀ (K : Kt LT) (k : Nat) (L : xL) (st : List Value) (S : LT), nx (cod_law n xs) cut_law K (k + 1) 782 L st S = (O_callV 0 0 (fun S : LT => S.1) (fun S F => (F, S.2)) (spG yX6_clearText cX6_clearText 2 (some .int) 0 fpW)) (nx (cod_law n xs) cut_law K k) 782 L st S) ∧
  (∀ (K : Kt LT) (k : Nat) (L : xL) (st : List Value) (S : LT), nx (cod_law n xs) cut_law K (k + 1) 785 L st S = (O_aload 2 1) (nx (cod_law n xs) cut_law K k) 785 L st S) ∧
  (∀ (K : Kt LT) (k : Nat) (L : xL) (st : List Value) (S : LT), nx (cod_law n xs) cut_law K (k + 1) 786 L st S = (O_callV 0 148 (fun S : LT => S.2) (fun S q => (S.1, q)) (spG yX7_clearText cX7_clearText 2 (some .int) 0 aW)) (nx (cod_law n xs) cut_law K k) 786 L st S) ∧
  (∀ (K : Kt LT) (k : Nat) (L : xL) (st : List Value) (S : LT), nx (cod_law n xs) cut_law K (k + 1) 789 L st S = (O_icmp_eq 830) (nx (cod_law n xs) cut_law K k) 789 L st S) ∧
  (∀ (K : Kt LT) (k : Nat) (L : xL) (st : List Value) (S : LT), nx (cod_law n xs) cut_law K (k + 1) 792 L st S = (O_int 0 1) (nx (cod_law n xs) cut_law K k) 792 L st S) ∧
  (∀ (K : Kt LT) (k : Nat) (L : xL) (st : List Value) (S : LT), nx (cod_law n xs) cut_law K (k + 1) 794 L st S = K 794 L st S) ∧
  (∀ (K : Kt LT) (k : Nat) (L : xL) (st : List Value) (S : LT), nx1 (cod_law n xs) cut_law K k 794 L st S = (O_aload 1 1) (nx (cod_law n xs) cut_law K k) 794 L st S) ∧
  (∀ (K : Kt LT) (k : Nat) (L : xL) (st : List Value) (S : LT), nx (cod_law n xs) cut_law K (k + 1) 795 L st S = (O_aload 0 1) (nx (cod_law n xs) cut_law K k) 795 L st S) ∧
  (∀ (K : Kt LT) (k : Nat) (L : xL) (st : List Value) (S : LT), nx (cod_law n xs) cut_law K (k + 1) 796 L st S = (O_iload 3 1) (nx (cod_law n xs) cut_law K k) 796 L st S) ∧
  (∀ (K : Kt LT) (k : Nat) (L : xL) (st : List Value) (S : LT), nx (cod_law n xs) cut_law K (k + 1) 797 L st S = (O_int 1 1) (nx (cod_law n xs) cut_law K k) 797 L st S) ∧
  (∀ (K : Kt LT) (k : Nat) (L : xL) (st : List Value) (S : LT), nx (cod_law n xs) cut_law K (k + 1) 798 L st S = (O_iadd) (nx (cod_law n xs) cut_law K k) 798 L st S) ∧
  (∀ (K : Kt LT) (k : Nat) (L : xL) (st : List Value) (S : LT), nx (cod_law n xs) cut_law K (k + 1) 799 L st S = (O_gald 1003 n xs) (nx (cod_law n xs) cut_law K k) 799 L st S) ∧
  (∀ (K : Kt LT) (k : Nat) (L : xL) (st : List Value) (S : LT), nx (cod_law n xs) cut_law K (k + 1) 800 L st S = (O_callV 1 0 (fun S : LT => S.1) (fun S F => (F, S.2)) (spG yX6_fault cX6_fault 3 (some .int) 7 fpW)) (nx (cod_law n xs) cut_law K k) 800 L st S) ∧
  (∀ (K : Kt LT) (k : Nat) (L : xL) (st : List Value) (S : LT), nx (cod_law n xs) cut_law K (k + 1) 803 L st S = (O_aload 2 1) (nx (cod_law n xs) cut_law K k) 803 L st S) ∧
  (∀ (K : Kt LT) (k : Nat) (L : xL) (st : List Value) (S : LT), nx (cod_law n xs) cut_law K (k + 1) 804 L st S = (O_aload 0 1) (nx (cod_law n xs) cut_law K k) 804 L st S) ∧
  (∀ (K : Kt LT) (k : Nat) (L : xL) (st : List Value) (S : LT), nx (cod_law n xs) cut_law K (k + 1) 805 L st S = (O_iload 3 1) (nx (cod_law n xs) cut_law K k) 805 L st S) ∧
  (∀ (K : Kt LT) (k : Nat) (L : xL) (st : List Value) (S : LT), nx (cod_law n xs) cut_law K (k + 1) 806 L st S = (O_int 1 1) (nx (cod_law n xs) cut_law K k) 806 L st S) ∧
  (∀ (K : Kt LT) (k : Nat) (L : xL) (st : List Value) (S : LT), nx (cod_law n xs) cut_law K (k + 1) 807 L st S = (O_iadd) (nx (cod_law n xs) cut_law K k) 807 L st S) ∧
  (∀ (K : Kt LT) (k : Nat) (L : xL) (st : List Value) (S : LT), nx (cod_law n xs) cut_law K (k + 1) 808 L st S = (O_gald 1003 n xs) (nx (cod_law n xs) cut_law K k) 808 L st S) ∧
  (∀ (K : Kt LT) (k : Nat) (L : xL) (st : List Value) (S : LT), nx (cod_law n xs) cut_law K (k + 1) 809 L st S = (O_callV 1 148 (fun S : LT => S.2) (fun S q => (S.1, q)) (spG yX7_fault cX7_fault 2 (some .int) 11 aW)) (nx (cod_law n xs) cut_law K k) 809 L st S) ∧
  (∀ (K : Kt LT) (k : Nat) (L : xL) (st : List Value) (S : LT), nx (cod_law n xs) cut_law K (k + 1) 812 L st S = (O_icmp_eq 830) (nx (cod_law n xs) cut_law K k) 812 L st S) ∧
  (∀ (K : Kt LT) (k : Nat) (L : xL) (st : List Value) (S : LT), nx (cod_law n xs) cut_law K (k + 1) 815 L st S = (O_int 0 1) (nx (cod_law n xs) cut_law K k) 815 L st S) ∧
  (∀ (K : Kt LT) (k : Nat) (L : xL) (st : List Value) (S : LT), nx (cod_law n xs) cut_law K (k + 1) 817 L st S = K 817 L st S) ∧
  (∀ (K : Kt LT) (k : Nat) (L : xL) (st : List Value) (S : LT), nx1 (cod_law n xs) cut_law K k 817 L st S = (O_aload 1 1) (nx (cod_law n xs) cut_law K k) 817 L st S) ∧
  (∀ (K : Kt LT) (k : Nat) (L : xL) (st : List Value) (S : LT), nx (cod_law n xs) cut_law K (k + 1) 818 L st S = (O_callV 0 0 (fun S : LT => S.1) (fun S F => (F, S.2)) (spG yX6_play cX6_play 1 (some .int) 7 fpW)) (nx (cod_law n xs) cut_law K k) 818 L st S) ∧
  (∀ (K : Kt LT) (k : Nat) (L : xL) (st : List Value) (S : LT), nx (cod_law n xs) cut_law K (k + 1) 821 L st S = (O_aload 2 1) (nx (cod_law n xs) cut_law K k) 821 L st S) ∧
  (∀ (K : Kt LT) (k : Nat) (L : xL) (st : List Value) (S : LT), nx (cod_law n xs) cut_law K (k + 1) 822 L st S = (O_callV 0 148 (fun S : LT => S.2) (fun S q => (S.1, q)) (spG yX7_play cX7_play 1 (some .int) 11 aW)) (nx (cod_law n xs) cut_law K k) 822 L st S) ∧
  (∀ (K : Kt LT) (k : Nat) (L : xL) (st : List Value) (S : LT), nx (cod_law n xs) cut_law K (k + 1) 825 L st S = (O_icmp_eq 830) (nx (cod_law n xs) cut_law K k) 825 L st S) ∧
  (∀ (K : Kt LT) (k : Nat) (L : xL) (st : List Value) (S : LT), nx (cod_law n xs) cut_law K (k + 1) 828 L st S = (O_int 0 1) (nx (cod_law n xs) cut_law K k) 828 L st S) ∧
  (∀ (K : Kt LT) (k : Nat) (L : xL) (st : List Value) (S : LT), nx (cod_law n xs) cut_law K (k + 1) 830 L st S = K 830 L st S) ∧
  (∀ (K : Kt LT) (k : Nat) (L : xL) (st : List Value) (S : LT), nx1 (cod_law n xs) cut_law K k 830 L st S = (O_iinc 3 4) (nx (cod_law n xs) cut_law K k) 830 L st S) ∧
  (∀ (K : Kt LT) (k : Nat) (L : xL) (st : List Value) (S : LT), nx (cod_law n xs) cut_law K (k + 1) 833 L st S = (O_goto 18) (nx (cod_law n xs) cut_law K k) 833 L st S) ∧
  (∀ (K : Kt LT) (k : Nat) (L : xL) (st : List Value) (S : LT), nx (cod_law n xs) cut_law K (k + 1) 836 L st S = K 836 L st S) ∧
  (∀ (K : Kt LT) (k : Nat) (L : xL) (st : List Value) (S : LT), nx1 (cod_law n xs) cut_law K k 836 L st S = (O_int 1 1) (nx (cod_law n xs) cut_law K k) 836 L st S) := by
  repeat' apply And.intro
  all_goals (intros; rfl)
