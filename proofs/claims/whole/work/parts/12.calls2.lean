/-! Calls by the number of arguments; what stands in the two objects from their making on. -/
def Cl (S : mj_S) (ν : mj_Y) (as : List Value) (h : mj_H) (Q : Option Value → mj_H → Prop) : Prop := Ex S ν 0 (mj_ent ν.2.2.1 as) [] h Q
def Pu (v : Value) (h : mj_H) : Option Value → mj_H → Prop := fun r h1 => r = some v ∧ h1 = h
theorem Cl_mono {S : mj_S} {ν : mj_Y} {as : List Value} {h : mj_H} {Q Q' : Option Value → mj_H → Prop} (k : Cl S ν as h Q') (hq : ∀ r h', Q' r h' → Q r h') : Cl S ν as h Q := Ex_mono k hq
section MJQ
variable {S : mj_S} {μ ν : mj_Y} {pc idx ci x w : Nat} {ls : mj_L} {st : List Value} {h : mj_H} {Q Qr : Option Value → mj_H → Prop} {v : Value}
theorem Ex_cS0 (hd : decode μ.2.1 pc = .ok (.invokestatic idx, 3)) (hk : mj_KS μ ν idx 0) (hc : Cl S ν [] h Qr) (k : ∀ r h1, Qr r h1 → Ex S μ (pc + 3) ls (r.toList ++ st) h1 Q) (hs : Nat.ble (mj_sl []).length ν.2.2.1 = true := by rfl) (hst : Nat.ble (mj_cat st) 8 = true := by rfl) (hl : ls.length = μ.2.2.1 := by rfl) : Ex S μ pc ls (st) h Q := Ex_callS hd hk [] rfl (Nat.le_of_ble_eq_true hs) (Nat.le_of_ble_eq_true hst) hl rfl hc k
theorem Ex_pS0 (hd : decode μ.2.1 pc = .ok (.invokestatic idx, 3)) (hk : mj_KS μ ν idx 0) (hc : Cl S ν [] h (Pu v h)) (k : Ex S μ (pc + 3) ls (v :: st) h Q) (hs : Nat.ble (mj_sl []).length ν.2.2.1 = true := by rfl) (hst : Nat.ble (mj_cat st) 8 = true := by rfl) (hl : ls.length = μ.2.2.1 := by rfl) : Ex S μ pc ls (st) h Q := Ex_callS hd hk [] rfl (Nat.le_of_ble_eq_true hs) (Nat.le_of_ble_eq_true hst) hl rfl hc (fun r h1 q => by obtain ⟨rfl, rfl⟩ := q; exact k)
theorem Ex_cV0 (hd : decode μ.2.1 pc = .ok (.invokevirtual idx, 3)) (hk : mj_KV μ ν idx ci 0) (ht : mT h x = some (10 + ci, w)) (hc : Cl S ν [.ref x] h Qr) (k : ∀ r h1, Qr r h1 → Ex S μ (pc + 3) ls (r.toList ++ st) h1 Q) (hs : Nat.ble (mj_sl [.ref x]).length ν.2.2.1 = true := by rfl) (hst : Nat.ble (mj_cat st) 8 = true := by rfl) (hl : ls.length = μ.2.2.1 := by rfl) : Ex S μ pc ls (.ref x :: st) h Q := Ex_callV hd hk [] rfl ht (Nat.le_of_ble_eq_true hs) (Nat.le_of_ble_eq_true hst) hl rfl hc k
theorem Ex_pV0 (hd : decode μ.2.1 pc = .ok (.invokevirtual idx, 3)) (hk : mj_KV μ ν idx ci 0) (ht : mT h x = some (10 + ci, w)) (hc : Cl S ν [.ref x] h (Pu v h)) (k : Ex S μ (pc + 3) ls (v :: st) h Q) (hs : Nat.ble (mj_sl [.ref x]).length ν.2.2.1 = true := by rfl) (hst : Nat.ble (mj_cat st) 8 = true := by rfl) (hl : ls.length = μ.2.2.1 := by rfl) : Ex S μ pc ls (.ref x :: st) h Q := Ex_callV hd hk [] rfl ht (Nat.le_of_ble_eq_true hs) (Nat.le_of_ble_eq_true hst) hl rfl hc (fun r h1 q => by obtain ⟨rfl, rfl⟩ := q; exact k)
theorem Ex_cI0 (hd : decode μ.2.1 pc = .ok (.invokespecial idx, 3)) (hk : mj_KI μ ν idx 0) (hc : Cl S ν [.ref x] h Qr) (k : ∀ r h1, Qr r h1 → Ex S μ (pc + 3) ls (r.toList ++ st) h1 Q) (hs : Nat.ble (mj_sl [.ref x]).length ν.2.2.1 = true := by rfl) (hst : Nat.ble (mj_cat st) 8 = true := by rfl) (hl : ls.length = μ.2.2.1 := by rfl) : Ex S μ pc ls (.ref x :: st) h Q := Ex_callI hd hk [] rfl (Nat.le_of_ble_eq_true hs) (Nat.le_of_ble_eq_true hst) hl rfl hc k
theorem Ex_cN0 (hd : decode μ.2.1 pc = .ok (.invokespecial idx, 3)) (hk : mj_KN μ ν idx 0) (hc : Cl S ν [.ref x] h Qr) (k : ∀ r h1, Qr r h1 → Ex S μ (pc + 3) ls (r.toList ++ st) h1 Q) (hs : Nat.ble (mj_sl [.ref x]).length ν.2.2.1 = true := by rfl) (hst : Nat.ble (mj_cat st) 8 = true := by rfl) (hl : ls.length = μ.2.2.1 := by rfl) : Ex S μ pc ls (.ref x :: st) h Q := Ex_callN hd hk [] rfl (Nat.le_of_ble_eq_true hs) (Nat.le_of_ble_eq_true hst) hl rfl hc k
theorem Ex_cS1 {a1 : Value} (hd : decode μ.2.1 pc = .ok (.invokestatic idx, 3)) (hk : mj_KS μ ν idx 1) (hc : Cl S ν [a1] h Qr) (k : ∀ r h1, Qr r h1 → Ex S μ (pc + 3) ls (r.toList ++ st) h1 Q) (hs : Nat.ble (mj_sl [a1]).length ν.2.2.1 = true := by rfl) (hst : Nat.ble (mj_cat st) 8 = true := by rfl) (hl : ls.length = μ.2.2.1 := by rfl) : Ex S μ pc ls (a1 :: st) h Q := Ex_callS hd hk [a1] rfl (Nat.le_of_ble_eq_true hs) (Nat.le_of_ble_eq_true hst) hl rfl hc k
theorem Ex_pS1 {a1 : Value} (hd : decode μ.2.1 pc = .ok (.invokestatic idx, 3)) (hk : mj_KS μ ν idx 1) (hc : Cl S ν [a1] h (Pu v h)) (k : Ex S μ (pc + 3) ls (v :: st) h Q) (hs : Nat.ble (mj_sl [a1]).length ν.2.2.1 = true := by rfl) (hst : Nat.ble (mj_cat st) 8 = true := by rfl) (hl : ls.length = μ.2.2.1 := by rfl) : Ex S μ pc ls (a1 :: st) h Q := Ex_callS hd hk [a1] rfl (Nat.le_of_ble_eq_true hs) (Nat.le_of_ble_eq_true hst) hl rfl hc (fun r h1 q => by obtain ⟨rfl, rfl⟩ := q; exact k)
theorem Ex_cV1 {a1 : Value} (hd : decode μ.2.1 pc = .ok (.invokevirtual idx, 3)) (hk : mj_KV μ ν idx ci 1) (ht : mT h x = some (10 + ci, w)) (hc : Cl S ν [.ref x, a1] h Qr) (k : ∀ r h1, Qr r h1 → Ex S μ (pc + 3) ls (r.toList ++ st) h1 Q) (hs : Nat.ble (mj_sl [.ref x, a1]).length ν.2.2.1 = true := by rfl) (hst : Nat.ble (mj_cat st) 8 = true := by rfl) (hl : ls.length = μ.2.2.1 := by rfl) : Ex S μ pc ls (a1 :: .ref x :: st) h Q := Ex_callV hd hk [a1] rfl ht (Nat.le_of_ble_eq_true hs) (Nat.le_of_ble_eq_true hst) hl rfl hc k
theorem Ex_pV1 {a1 : Value} (hd : decode μ.2.1 pc = .ok (.invokevirtual idx, 3)) (hk : mj_KV μ ν idx ci 1) (ht : mT h x = some (10 + ci, w)) (hc : Cl S ν [.ref x, a1] h (Pu v h)) (k : Ex S μ (pc + 3) ls (v :: st) h Q) (hs : Nat.ble (mj_sl [.ref x, a1]).length ν.2.2.1 = true := by rfl) (hst : Nat.ble (mj_cat st) 8 = true := by rfl) (hl : ls.length = μ.2.2.1 := by rfl) : Ex S μ pc ls (a1 :: .ref x :: st) h Q := Ex_callV hd hk [a1] rfl ht (Nat.le_of_ble_eq_true hs) (Nat.le_of_ble_eq_true hst) hl rfl hc (fun r h1 q => by obtain ⟨rfl, rfl⟩ := q; exact k)
theorem Ex_cI1 {a1 : Value} (hd : decode μ.2.1 pc = .ok (.invokespecial idx, 3)) (hk : mj_KI μ ν idx 1) (hc : Cl S ν [.ref x, a1] h Qr) (k : ∀ r h1, Qr r h1 → Ex S μ (pc + 3) ls (r.toList ++ st) h1 Q) (hs : Nat.ble (mj_sl [.ref x, a1]).length ν.2.2.1 = true := by rfl) (hst : Nat.ble (mj_cat st) 8 = true := by rfl) (hl : ls.length = μ.2.2.1 := by rfl) : Ex S μ pc ls (a1 :: .ref x :: st) h Q := Ex_callI hd hk [a1] rfl (Nat.le_of_ble_eq_true hs) (Nat.le_of_ble_eq_true hst) hl rfl hc k
theorem Ex_cN1 {a1 : Value} (hd : decode μ.2.1 pc = .ok (.invokespecial idx, 3)) (hk : mj_KN μ ν idx 1) (hc : Cl S ν [.ref x, a1] h Qr) (k : ∀ r h1, Qr r h1 → Ex S μ (pc + 3) ls (r.toList ++ st) h1 Q) (hs : Nat.ble (mj_sl [.ref x, a1]).length ν.2.2.1 = true := by rfl) (hst : Nat.ble (mj_cat st) 8 = true := by rfl) (hl : ls.length = μ.2.2.1 := by rfl) : Ex S μ pc ls (a1 :: .ref x :: st) h Q := Ex_callN hd hk [a1] rfl (Nat.le_of_ble_eq_true hs) (Nat.le_of_ble_eq_true hst) hl rfl hc k
theorem Ex_cS2 {a1 a2 : Value} (hd : decode μ.2.1 pc = .ok (.invokestatic idx, 3)) (hk : mj_KS μ ν idx 2) (hc : Cl S ν [a1, a2] h Qr) (k : ∀ r h1, Qr r h1 → Ex S μ (pc + 3) ls (r.toList ++ st) h1 Q) (hs : Nat.ble (mj_sl [a1, a2]).length ν.2.2.1 = true := by rfl) (hst : Nat.ble (mj_cat st) 8 = true := by rfl) (hl : ls.length = μ.2.2.1 := by rfl) : Ex S μ pc ls (a2 :: a1 :: st) h Q := Ex_callS hd hk [a1, a2] rfl (Nat.le_of_ble_eq_true hs) (Nat.le_of_ble_eq_true hst) hl rfl hc k
theorem Ex_pS2 {a1 a2 : Value} (hd : decode μ.2.1 pc = .ok (.invokestatic idx, 3)) (hk : mj_KS μ ν idx 2) (hc : Cl S ν [a1, a2] h (Pu v h)) (k : Ex S μ (pc + 3) ls (v :: st) h Q) (hs : Nat.ble (mj_sl [a1, a2]).length ν.2.2.1 = true := by rfl) (hst : Nat.ble (mj_cat st) 8 = true := by rfl) (hl : ls.length = μ.2.2.1 := by rfl) : Ex S μ pc ls (a2 :: a1 :: st) h Q := Ex_callS hd hk [a1, a2] rfl (Nat.le_of_ble_eq_true hs) (Nat.le_of_ble_eq_true hst) hl rfl hc (fun r h1 q => by obtain ⟨rfl, rfl⟩ := q; exact k)
theorem Ex_cV2 {a1 a2 : Value} (hd : decode μ.2.1 pc = .ok (.invokevirtual idx, 3)) (hk : mj_KV μ ν idx ci 2) (ht : mT h x = some (10 + ci, w)) (hc : Cl S ν [.ref x, a1, a2] h Qr) (k : ∀ r h1, Qr r h1 → Ex S μ (pc + 3) ls (r.toList ++ st) h1 Q) (hs : Nat.ble (mj_sl [.ref x, a1, a2]).length ν.2.2.1 = true := by rfl) (hst : Nat.ble (mj_cat st) 8 = true := by rfl) (hl : ls.length = μ.2.2.1 := by rfl) : Ex S μ pc ls (a2 :: a1 :: .ref x :: st) h Q := Ex_callV hd hk [a1, a2] rfl ht (Nat.le_of_ble_eq_true hs) (Nat.le_of_ble_eq_true hst) hl rfl hc k
theorem Ex_pV2 {a1 a2 : Value} (hd : decode μ.2.1 pc = .ok (.invokevirtual idx, 3)) (hk : mj_KV μ ν idx ci 2) (ht : mT h x = some (10 + ci, w)) (hc : Cl S ν [.ref x, a1, a2] h (Pu v h)) (k : Ex S μ (pc + 3) ls (v :: st) h Q) (hs : Nat.ble (mj_sl [.ref x, a1, a2]).length ν.2.2.1 = true := by rfl) (hst : Nat.ble (mj_cat st) 8 = true := by rfl) (hl : ls.length = μ.2.2.1 := by rfl) : Ex S μ pc ls (a2 :: a1 :: .ref x :: st) h Q := Ex_callV hd hk [a1, a2] rfl ht (Nat.le_of_ble_eq_true hs) (Nat.le_of_ble_eq_true hst) hl rfl hc (fun r h1 q => by obtain ⟨rfl, rfl⟩ := q; exact k)
theorem Ex_cI2 {a1 a2 : Value} (hd : decode μ.2.1 pc = .ok (.invokespecial idx, 3)) (hk : mj_KI μ ν idx 2) (hc : Cl S ν [.ref x, a1, a2] h Qr) (k : ∀ r h1, Qr r h1 → Ex S μ (pc + 3) ls (r.toList ++ st) h1 Q) (hs : Nat.ble (mj_sl [.ref x, a1, a2]).length ν.2.2.1 = true := by rfl) (hst : Nat.ble (mj_cat st) 8 = true := by rfl) (hl : ls.length = μ.2.2.1 := by rfl) : Ex S μ pc ls (a2 :: a1 :: .ref x :: st) h Q := Ex_callI hd hk [a1, a2] rfl (Nat.le_of_ble_eq_true hs) (Nat.le_of_ble_eq_true hst) hl rfl hc k
theorem Ex_cN2 {a1 a2 : Value} (hd : decode μ.2.1 pc = .ok (.invokespecial idx, 3)) (hk : mj_KN μ ν idx 2) (hc : Cl S ν [.ref x, a1, a2] h Qr) (k : ∀ r h1, Qr r h1 → Ex S μ (pc + 3) ls (r.toList ++ st) h1 Q) (hs : Nat.ble (mj_sl [.ref x, a1, a2]).length ν.2.2.1 = true := by rfl) (hst : Nat.ble (mj_cat st) 8 = true := by rfl) (hl : ls.length = μ.2.2.1 := by rfl) : Ex S μ pc ls (a2 :: a1 :: .ref x :: st) h Q := Ex_callN hd hk [a1, a2] rfl (Nat.le_of_ble_eq_true hs) (Nat.le_of_ble_eq_true hst) hl rfl hc k
theorem Ex_cS3 {a1 a2 a3 : Value} (hd : decode μ.2.1 pc = .ok (.invokestatic idx, 3)) (hk : mj_KS μ ν idx 3) (hc : Cl S ν [a1, a2, a3] h Qr) (k : ∀ r h1, Qr r h1 → Ex S μ (pc + 3) ls (r.toList ++ st) h1 Q) (hs : Nat.ble (mj_sl [a1, a2, a3]).length ν.2.2.1 = true := by rfl) (hst : Nat.ble (mj_cat st) 8 = true := by rfl) (hl : ls.length = μ.2.2.1 := by rfl) : Ex S μ pc ls (a3 :: a2 :: a1 :: st) h Q := Ex_callS hd hk [a1, a2, a3] rfl (Nat.le_of_ble_eq_true hs) (Nat.le_of_ble_eq_true hst) hl rfl hc k
theorem Ex_pS3 {a1 a2 a3 : Value} (hd : decode μ.2.1 pc = .ok (.invokestatic idx, 3)) (hk : mj_KS μ ν idx 3) (hc : Cl S ν [a1, a2, a3] h (Pu v h)) (k : Ex S μ (pc + 3) ls (v :: st) h Q) (hs : Nat.ble (mj_sl [a1, a2, a3]).length ν.2.2.1 = true := by rfl) (hst : Nat.ble (mj_cat st) 8 = true := by rfl) (hl : ls.length = μ.2.2.1 := by rfl) : Ex S μ pc ls (a3 :: a2 :: a1 :: st) h Q := Ex_callS hd hk [a1, a2, a3] rfl (Nat.le_of_ble_eq_true hs) (Nat.le_of_ble_eq_true hst) hl rfl hc (fun r h1 q => by obtain ⟨rfl, rfl⟩ := q; exact k)
theorem Ex_cV3 {a1 a2 a3 : Value} (hd : decode μ.2.1 pc = .ok (.invokevirtual idx, 3)) (hk : mj_KV μ ν idx ci 3) (ht : mT h x = some (10 + ci, w)) (hc : Cl S ν [.ref x, a1, a2, a3] h Qr) (k : ∀ r h1, Qr r h1 → Ex S μ (pc + 3) ls (r.toList ++ st) h1 Q) (hs : Nat.ble (mj_sl [.ref x, a1, a2, a3]).length ν.2.2.1 = true := by rfl) (hst : Nat.ble (mj_cat st) 8 = true := by rfl) (hl : ls.length = μ.2.2.1 := by rfl) : Ex S μ pc ls (a3 :: a2 :: a1 :: .ref x :: st) h Q := Ex_callV hd hk [a1, a2, a3] rfl ht (Nat.le_of_ble_eq_true hs) (Nat.le_of_ble_eq_true hst) hl rfl hc k
theorem Ex_pV3 {a1 a2 a3 : Value} (hd : decode μ.2.1 pc = .ok (.invokevirtual idx, 3)) (hk : mj_KV μ ν idx ci 3) (ht : mT h x = some (10 + ci, w)) (hc : Cl S ν [.ref x, a1, a2, a3] h (Pu v h)) (k : Ex S μ (pc + 3) ls (v :: st) h Q) (hs : Nat.ble (mj_sl [.ref x, a1, a2, a3]).length ν.2.2.1 = true := by rfl) (hst : Nat.ble (mj_cat st) 8 = true := by rfl) (hl : ls.length = μ.2.2.1 := by rfl) : Ex S μ pc ls (a3 :: a2 :: a1 :: .ref x :: st) h Q := Ex_callV hd hk [a1, a2, a3] rfl ht (Nat.le_of_ble_eq_true hs) (Nat.le_of_ble_eq_true hst) hl rfl hc (fun r h1 q => by obtain ⟨rfl, rfl⟩ := q; exact k)
theorem Ex_cI3 {a1 a2 a3 : Value} (hd : decode μ.2.1 pc = .ok (.invokespecial idx, 3)) (hk : mj_KI μ ν idx 3) (hc : Cl S ν [.ref x, a1, a2, a3] h Qr) (k : ∀ r h1, Qr r h1 → Ex S μ (pc + 3) ls (r.toList ++ st) h1 Q) (hs : Nat.ble (mj_sl [.ref x, a1, a2, a3]).length ν.2.2.1 = true := by rfl) (hst : Nat.ble (mj_cat st) 8 = true := by rfl) (hl : ls.length = μ.2.2.1 := by rfl) : Ex S μ pc ls (a3 :: a2 :: a1 :: .ref x :: st) h Q := Ex_callI hd hk [a1, a2, a3] rfl (Nat.le_of_ble_eq_true hs) (Nat.le_of_ble_eq_true hst) hl rfl hc k
theorem Ex_cN3 {a1 a2 a3 : Value} (hd : decode μ.2.1 pc = .ok (.invokespecial idx, 3)) (hk : mj_KN μ ν idx 3) (hc : Cl S ν [.ref x, a1, a2, a3] h Qr) (k : ∀ r h1, Qr r h1 → Ex S μ (pc + 3) ls (r.toList ++ st) h1 Q) (hs : Nat.ble (mj_sl [.ref x, a1, a2, a3]).length ν.2.2.1 = true := by rfl) (hst : Nat.ble (mj_cat st) 8 = true := by rfl) (hl : ls.length = μ.2.2.1 := by rfl) : Ex S μ pc ls (a3 :: a2 :: a1 :: .ref x :: st) h Q := Ex_callN hd hk [a1, a2, a3] rfl (Nat.le_of_ble_eq_true hs) (Nat.le_of_ble_eq_true hst) hl rfl hc k
theorem Ex_cS4 {a1 a2 a3 a4 : Value} (hd : decode μ.2.1 pc = .ok (.invokestatic idx, 3)) (hk : mj_KS μ ν idx 4) (hc : Cl S ν [a1, a2, a3, a4] h Qr) (k : ∀ r h1, Qr r h1 → Ex S μ (pc + 3) ls (r.toList ++ st) h1 Q) (hs : Nat.ble (mj_sl [a1, a2, a3, a4]).length ν.2.2.1 = true := by rfl) (hst : Nat.ble (mj_cat st) 8 = true := by rfl) (hl : ls.length = μ.2.2.1 := by rfl) : Ex S μ pc ls (a4 :: a3 :: a2 :: a1 :: st) h Q := Ex_callS hd hk [a1, a2, a3, a4] rfl (Nat.le_of_ble_eq_true hs) (Nat.le_of_ble_eq_true hst) hl rfl hc k
theorem Ex_pS4 {a1 a2 a3 a4 : Value} (hd : decode μ.2.1 pc = .ok (.invokestatic idx, 3)) (hk : mj_KS μ ν idx 4) (hc : Cl S ν [a1, a2, a3, a4] h (Pu v h)) (k : Ex S μ (pc + 3) ls (v :: st) h Q) (hs : Nat.ble (mj_sl [a1, a2, a3, a4]).length ν.2.2.1 = true := by rfl) (hst : Nat.ble (mj_cat st) 8 = true := by rfl) (hl : ls.length = μ.2.2.1 := by rfl) : Ex S μ pc ls (a4 :: a3 :: a2 :: a1 :: st) h Q := Ex_callS hd hk [a1, a2, a3, a4] rfl (Nat.le_of_ble_eq_true hs) (Nat.le_of_ble_eq_true hst) hl rfl hc (fun r h1 q => by obtain ⟨rfl, rfl⟩ := q; exact k)
theorem Ex_cV4 {a1 a2 a3 a4 : Value} (hd : decode μ.2.1 pc = .ok (.invokevirtual idx, 3)) (hk : mj_KV μ ν idx ci 4) (ht : mT h x = some (10 + ci, w)) (hc : Cl S ν [.ref x, a1, a2, a3, a4] h Qr) (k : ∀ r h1, Qr r h1 → Ex S μ (pc + 3) ls (r.toList ++ st) h1 Q) (hs : Nat.ble (mj_sl [.ref x, a1, a2, a3, a4]).length ν.2.2.1 = true := by rfl) (hst : Nat.ble (mj_cat st) 8 = true := by rfl) (hl : ls.length = μ.2.2.1 := by rfl) : Ex S μ pc ls (a4 :: a3 :: a2 :: a1 :: .ref x :: st) h Q := Ex_callV hd hk [a1, a2, a3, a4] rfl ht (Nat.le_of_ble_eq_true hs) (Nat.le_of_ble_eq_true hst) hl rfl hc k
theorem Ex_pV4 {a1 a2 a3 a4 : Value} (hd : decode μ.2.1 pc = .ok (.invokevirtual idx, 3)) (hk : mj_KV μ ν idx ci 4) (ht : mT h x = some (10 + ci, w)) (hc : Cl S ν [.ref x, a1, a2, a3, a4] h (Pu v h)) (k : Ex S μ (pc + 3) ls (v :: st) h Q) (hs : Nat.ble (mj_sl [.ref x, a1, a2, a3, a4]).length ν.2.2.1 = true := by rfl) (hst : Nat.ble (mj_cat st) 8 = true := by rfl) (hl : ls.length = μ.2.2.1 := by rfl) : Ex S μ pc ls (a4 :: a3 :: a2 :: a1 :: .ref x :: st) h Q := Ex_callV hd hk [a1, a2, a3, a4] rfl ht (Nat.le_of_ble_eq_true hs) (Nat.le_of_ble_eq_true hst) hl rfl hc (fun r h1 q => by obtain ⟨rfl, rfl⟩ := q; exact k)
theorem Ex_cI4 {a1 a2 a3 a4 : Value} (hd : decode μ.2.1 pc = .ok (.invokespecial idx, 3)) (hk : mj_KI μ ν idx 4) (hc : Cl S ν [.ref x, a1, a2, a3, a4] h Qr) (k : ∀ r h1, Qr r h1 → Ex S μ (pc + 3) ls (r.toList ++ st) h1 Q) (hs : Nat.ble (mj_sl [.ref x, a1, a2, a3, a4]).length ν.2.2.1 = true := by rfl) (hst : Nat.ble (mj_cat st) 8 = true := by rfl) (hl : ls.length = μ.2.2.1 := by rfl) : Ex S μ pc ls (a4 :: a3 :: a2 :: a1 :: .ref x :: st) h Q := Ex_callI hd hk [a1, a2, a3, a4] rfl (Nat.le_of_ble_eq_true hs) (Nat.le_of_ble_eq_true hst) hl rfl hc k
theorem Ex_cN4 {a1 a2 a3 a4 : Value} (hd : decode μ.2.1 pc = .ok (.invokespecial idx, 3)) (hk : mj_KN μ ν idx 4) (hc : Cl S ν [.ref x, a1, a2, a3, a4] h Qr) (k : ∀ r h1, Qr r h1 → Ex S μ (pc + 3) ls (r.toList ++ st) h1 Q) (hs : Nat.ble (mj_sl [.ref x, a1, a2, a3, a4]).length ν.2.2.1 = true := by rfl) (hst : Nat.ble (mj_cat st) 8 = true := by rfl) (hl : ls.length = μ.2.2.1 := by rfl) : Ex S μ pc ls (a4 :: a3 :: a2 :: a1 :: .ref x :: st) h Q := Ex_callN hd hk [a1, a2, a3, a4] rfl (Nat.le_of_ble_eq_true hs) (Nat.le_of_ble_eq_true hst) hl rfl hc k
theorem Ex_cS5 {a1 a2 a3 a4 a5 : Value} (hd : decode μ.2.1 pc = .ok (.invokestatic idx, 3)) (hk : mj_KS μ ν idx 5) (hc : Cl S ν [a1, a2, a3, a4, a5] h Qr) (k : ∀ r h1, Qr r h1 → Ex S μ (pc + 3) ls (r.toList ++ st) h1 Q) (hs : Nat.ble (mj_sl [a1, a2, a3, a4, a5]).length ν.2.2.1 = true := by rfl) (hst : Nat.ble (mj_cat st) 8 = true := by rfl) (hl : ls.length = μ.2.2.1 := by rfl) : Ex S μ pc ls (a5 :: a4 :: a3 :: a2 :: a1 :: st) h Q := Ex_callS hd hk [a1, a2, a3, a4, a5] rfl (Nat.le_of_ble_eq_true hs) (Nat.le_of_ble_eq_true hst) hl rfl hc k
theorem Ex_pS5 {a1 a2 a3 a4 a5 : Value} (hd : decode μ.2.1 pc = .ok (.invokestatic idx, 3)) (hk : mj_KS μ ν idx 5) (hc : Cl S ν [a1, a2, a3, a4, a5] h (Pu v h)) (k : Ex S μ (pc + 3) ls (v :: st) h Q) (hs : Nat.ble (mj_sl [a1, a2, a3, a4, a5]).length ν.2.2.1 = true := by rfl) (hst : Nat.ble (mj_cat st) 8 = true := by rfl) (hl : ls.length = μ.2.2.1 := by rfl) : Ex S μ pc ls (a5 :: a4 :: a3 :: a2 :: a1 :: st) h Q := Ex_callS hd hk [a1, a2, a3, a4, a5] rfl (Nat.le_of_ble_eq_true hs) (Nat.le_of_ble_eq_true hst) hl rfl hc (fun r h1 q => by obtain ⟨rfl, rfl⟩ := q; exact k)
theorem Ex_cV5 {a1 a2 a3 a4 a5 : Value} (hd : decode μ.2.1 pc = .ok (.invokevirtual idx, 3)) (hk : mj_KV μ ν idx ci 5) (ht : mT h x = some (10 + ci, w)) (hc : Cl S ν [.ref x, a1, a2, a3, a4, a5] h Qr) (k : ∀ r h1, Qr r h1 → Ex S μ (pc + 3) ls (r.toList ++ st) h1 Q) (hs : Nat.ble (mj_sl [.ref x, a1, a2, a3, a4, a5]).length ν.2.2.1 = true := by rfl) (hst : Nat.ble (mj_cat st) 8 = true := by rfl) (hl : ls.length = μ.2.2.1 := by rfl) : Ex S μ pc ls (a5 :: a4 :: a3 :: a2 :: a1 :: .ref x :: st) h Q := Ex_callV hd hk [a1, a2, a3, a4, a5] rfl ht (Nat.le_of_ble_eq_true hs) (Nat.le_of_ble_eq_true hst) hl rfl hc k
theorem Ex_pV5 {a1 a2 a3 a4 a5 : Value} (hd : decode μ.2.1 pc = .ok (.invokevirtual idx, 3)) (hk : mj_KV μ ν idx ci 5) (ht : mT h x = some (10 + ci, w)) (hc : Cl S ν [.ref x, a1, a2, a3, a4, a5] h (Pu v h)) (k : Ex S μ (pc + 3) ls (v :: st) h Q) (hs : Nat.ble (mj_sl [.ref x, a1, a2, a3, a4, a5]).length ν.2.2.1 = true := by rfl) (hst : Nat.ble (mj_cat st) 8 = true := by rfl) (hl : ls.length = μ.2.2.1 := by rfl) : Ex S μ pc ls (a5 :: a4 :: a3 :: a2 :: a1 :: .ref x :: st) h Q := Ex_callV hd hk [a1, a2, a3, a4, a5] rfl ht (Nat.le_of_ble_eq_true hs) (Nat.le_of_ble_eq_true hst) hl rfl hc (fun r h1 q => by obtain ⟨rfl, rfl⟩ := q; exact k)
theorem Ex_cI5 {a1 a2 a3 a4 a5 : Value} (hd : decode μ.2.1 pc = .ok (.invokespecial idx, 3)) (hk : mj_KI μ ν idx 5) (hc : Cl S ν [.ref x, a1, a2, a3, a4, a5] h Qr) (k : ∀ r h1, Qr r h1 → Ex S μ (pc + 3) ls (r.toList ++ st) h1 Q) (hs : Nat.ble (mj_sl [.ref x, a1, a2, a3, a4, a5]).length ν.2.2.1 = true := by rfl) (hst : Nat.ble (mj_cat st) 8 = true := by rfl) (hl : ls.length = μ.2.2.1 := by rfl) : Ex S μ pc ls (a5 :: a4 :: a3 :: a2 :: a1 :: .ref x :: st) h Q := Ex_callI hd hk [a1, a2, a3, a4, a5] rfl (Nat.le_of_ble_eq_true hs) (Nat.le_of_ble_eq_true hst) hl rfl hc k
theorem Ex_cN5 {a1 a2 a3 a4 a5 : Value} (hd : decode μ.2.1 pc = .ok (.invokespecial idx, 3)) (hk : mj_KN μ ν idx 5) (hc : Cl S ν [.ref x, a1, a2, a3, a4, a5] h Qr) (k : ∀ r h1, Qr r h1 → Ex S μ (pc + 3) ls (r.toList ++ st) h1 Q) (hs : Nat.ble (mj_sl [.ref x, a1, a2, a3, a4, a5]).length ν.2.2.1 = true := by rfl) (hst : Nat.ble (mj_cat st) 8 = true := by rfl) (hl : ls.length = μ.2.2.1 := by rfl) : Ex S μ pc ls (a5 :: a4 :: a3 :: a2 :: a1 :: .ref x :: st) h Q := Ex_callN hd hk [a1, a2, a3, a4, a5] rfl (Nat.le_of_ble_eq_true hs) (Nat.le_of_ble_eq_true hst) hl rfl hc k
theorem Ex_cS6 {a1 a2 a3 a4 a5 a6 : Value} (hd : decode μ.2.1 pc = .ok (.invokestatic idx, 3)) (hk : mj_KS μ ν idx 6) (hc : Cl S ν [a1, a2, a3, a4, a5, a6] h Qr) (k : ∀ r h1, Qr r h1 → Ex S μ (pc + 3) ls (r.toList ++ st) h1 Q) (hs : Nat.ble (mj_sl [a1, a2, a3, a4, a5, a6]).length ν.2.2.1 = true := by rfl) (hst : Nat.ble (mj_cat st) 8 = true := by rfl) (hl : ls.length = μ.2.2.1 := by rfl) : Ex S μ pc ls (a6 :: a5 :: a4 :: a3 :: a2 :: a1 :: st) h Q := Ex_callS hd hk [a1, a2, a3, a4, a5, a6] rfl (Nat.le_of_ble_eq_true hs) (Nat.le_of_ble_eq_true hst) hl rfl hc k
theorem Ex_pS6 {a1 a2 a3 a4 a5 a6 : Value} (hd : decode μ.2.1 pc = .ok (.invokestatic idx, 3)) (hk : mj_KS μ ν idx 6) (hc : Cl S ν [a1, a2, a3, a4, a5, a6] h (Pu v h)) (k : Ex S μ (pc + 3) ls (v :: st) h Q) (hs : Nat.ble (mj_sl [a1, a2, a3, a4, a5, a6]).length ν.2.2.1 = true := by rfl) (hst : Nat.ble (mj_cat st) 8 = true := by rfl) (hl : ls.length = μ.2.2.1 := by rfl) : Ex S μ pc ls (a6 :: a5 :: a4 :: a3 :: a2 :: a1 :: st) h Q := Ex_callS hd hk [a1, a2, a3, a4, a5, a6] rfl (Nat.le_of_ble_eq_true hs) (Nat.le_of_ble_eq_true hst) hl rfl hc (fun r h1 q => by obtain ⟨rfl, rfl⟩ := q; exact k)
theorem Ex_cV6 {a1 a2 a3 a4 a5 a6 : Value} (hd : decode μ.2.1 pc = .ok (.invokevirtual idx, 3)) (hk : mj_KV μ ν idx ci 6) (ht : mT h x = some (10 + ci, w)) (hc : Cl S ν [.ref x, a1, a2, a3, a4, a5, a6] h Qr) (k : ∀ r h1, Qr r h1 → Ex S μ (pc + 3) ls (r.toList ++ st) h1 Q) (hs : Nat.ble (mj_sl [.ref x, a1, a2, a3, a4, a5, a6]).length ν.2.2.1 = true := by rfl) (hst : Nat.ble (mj_cat st) 8 = true := by rfl) (hl : ls.length = μ.2.2.1 := by rfl) : Ex S μ pc ls (a6 :: a5 :: a4 :: a3 :: a2 :: a1 :: .ref x :: st) h Q := Ex_callV hd hk [a1, a2, a3, a4, a5, a6] rfl ht (Nat.le_of_ble_eq_true hs) (Nat.le_of_ble_eq_true hst) hl rfl hc k
theorem Ex_pV6 {a1 a2 a3 a4 a5 a6 : Value} (hd : decode μ.2.1 pc = .ok (.invokevirtual idx, 3)) (hk : mj_KV μ ν idx ci 6) (ht : mT h x = some (10 + ci, w)) (hc : Cl S ν [.ref x, a1, a2, a3, a4, a5, a6] h (Pu v h)) (k : Ex S μ (pc + 3) ls (v :: st) h Q) (hs : Nat.ble (mj_sl [.ref x, a1, a2, a3, a4, a5, a6]).length ν.2.2.1 = true := by rfl) (hst : Nat.ble (mj_cat st) 8 = true := by rfl) (hl : ls.length = μ.2.2.1 := by rfl) : Ex S μ pc ls (a6 :: a5 :: a4 :: a3 :: a2 :: a1 :: .ref x :: st) h Q := Ex_callV hd hk [a1, a2, a3, a4, a5, a6] rfl ht (Nat.le_of_ble_eq_true hs) (Nat.le_of_ble_eq_true hst) hl rfl hc (fun r h1 q => by obtain ⟨rfl, rfl⟩ := q; exact k)
theorem Ex_cI6 {a1 a2 a3 a4 a5 a6 : Value} (hd : decode μ.2.1 pc = .ok (.invokespecial idx, 3)) (hk : mj_KI μ ν idx 6) (hc : Cl S ν [.ref x, a1, a2, a3, a4, a5, a6] h Qr) (k : ∀ r h1, Qr r h1 → Ex S μ (pc + 3) ls (r.toList ++ st) h1 Q) (hs : Nat.ble (mj_sl [.ref x, a1, a2, a3, a4, a5, a6]).length ν.2.2.1 = true := by rfl) (hst : Nat.ble (mj_cat st) 8 = true := by rfl) (hl : ls.length = μ.2.2.1 := by rfl) : Ex S μ pc ls (a6 :: a5 :: a4 :: a3 :: a2 :: a1 :: .ref x :: st) h Q := Ex_callI hd hk [a1, a2, a3, a4, a5, a6] rfl (Nat.le_of_ble_eq_true hs) (Nat.le_of_ble_eq_true hst) hl rfl hc k
theorem Ex_cN6 {a1 a2 a3 a4 a5 a6 : Value} (hd : decode μ.2.1 pc = .ok (.invokespecial idx, 3)) (hk : mj_KN μ ν idx 6) (hc : Cl S ν [.ref x, a1, a2, a3, a4, a5, a6] h Qr) (k : ∀ r h1, Qr r h1 → Ex S μ (pc + 3) ls (r.toList ++ st) h1 Q) (hs : Nat.ble (mj_sl [.ref x, a1, a2, a3, a4, a5, a6]).length ν.2.2.1 = true := by rfl) (hst : Nat.ble (mj_cat st) 8 = true := by rfl) (hl : ls.length = μ.2.2.1 := by rfl) : Ex S μ pc ls (a6 :: a5 :: a4 :: a3 :: a2 :: a1 :: .ref x :: st) h Q := Ex_callN hd hk [a1, a2, a3, a4, a5, a6] rfl (Nat.le_of_ble_eq_true hs) (Nat.le_of_ble_eq_true hst) hl rfl hc k
theorem Ex_cS7 {a1 a2 a3 a4 a5 a6 a7 : Value} (hd : decode μ.2.1 pc = .ok (.invokestatic idx, 3)) (hk : mj_KS μ ν idx 7) (hc : Cl S ν [a1, a2, a3, a4, a5, a6, a7] h Qr) (k : ∀ r h1, Qr r h1 → Ex S μ (pc + 3) ls (r.toList ++ st) h1 Q) (hs : Nat.ble (mj_sl [a1, a2, a3, a4, a5, a6, a7]).length ν.2.2.1 = true := by rfl) (hst : Nat.ble (mj_cat st) 8 = true := by rfl) (hl : ls.length = μ.2.2.1 := by rfl) : Ex S μ pc ls (a7 :: a6 :: a5 :: a4 :: a3 :: a2 :: a1 :: st) h Q := Ex_callS hd hk [a1, a2, a3, a4, a5, a6, a7] rfl (Nat.le_of_ble_eq_true hs) (Nat.le_of_ble_eq_true hst) hl rfl hc k
theorem Ex_pS7 {a1 a2 a3 a4 a5 a6 a7 : Value} (hd : decode μ.2.1 pc = .ok (.invokestatic idx, 3)) (hk : mj_KS μ ν idx 7) (hc : Cl S ν [a1, a2, a3, a4, a5, a6, a7] h (Pu v h)) (k : Ex S μ (pc + 3) ls (v :: st) h Q) (hs : Nat.ble (mj_sl [a1, a2, a3, a4, a5, a6, a7]).length ν.2.2.1 = true := by rfl) (hst : Nat.ble (mj_cat st) 8 = true := by rfl) (hl : ls.length = μ.2.2.1 := by rfl) : Ex S μ pc ls (a7 :: a6 :: a5 :: a4 :: a3 :: a2 :: a1 :: st) h Q := Ex_callS hd hk [a1, a2, a3, a4, a5, a6, a7] rfl (Nat.le_of_ble_eq_true hs) (Nat.le_of_ble_eq_true hst) hl rfl hc (fun r h1 q => by obtain ⟨rfl, rfl⟩ := q; exact k)
theorem Ex_cV7 {a1 a2 a3 a4 a5 a6 a7 : Value} (hd : decode μ.2.1 pc = .ok (.invokevirtual idx, 3)) (hk : mj_KV μ ν idx ci 7) (ht : mT h x = some (10 + ci, w)) (hc : Cl S ν [.ref x, a1, a2, a3, a4, a5, a6, a7] h Qr) (k : ∀ r h1, Qr r h1 → Ex S μ (pc + 3) ls (r.toList ++ st) h1 Q) (hs : Nat.ble (mj_sl [.ref x, a1, a2, a3, a4, a5, a6, a7]).length ν.2.2.1 = true := by rfl) (hst : Nat.ble (mj_cat st) 8 = true := by rfl) (hl : ls.length = μ.2.2.1 := by rfl) : Ex S μ pc ls (a7 :: a6 :: a5 :: a4 :: a3 :: a2 :: a1 :: .ref x :: st) h Q := Ex_callV hd hk [a1, a2, a3, a4, a5, a6, a7] rfl ht (Nat.le_of_ble_eq_true hs) (Nat.le_of_ble_eq_true hst) hl rfl hc k
theorem Ex_pV7 {a1 a2 a3 a4 a5 a6 a7 : Value} (hd : decode μ.2.1 pc = .ok (.invokevirtual idx, 3)) (hk : mj_KV μ ν idx ci 7) (ht : mT h x = some (10 + ci, w)) (hc : Cl S ν [.ref x, a1, a2, a3, a4, a5, a6, a7] h (Pu v h)) (k : Ex S μ (pc + 3) ls (v :: st) h Q) (hs : Nat.ble (mj_sl [.ref x, a1, a2, a3, a4, a5, a6, a7]).length ν.2.2.1 = true := by rfl) (hst : Nat.ble (mj_cat st) 8 = true := by rfl) (hl : ls.length = μ.2.2.1 := by rfl) : Ex S μ pc ls (a7 :: a6 :: a5 :: a4 :: a3 :: a2 :: a1 :: .ref x :: st) h Q := Ex_callV hd hk [a1, a2, a3, a4, a5, a6, a7] rfl ht (Nat.le_of_ble_eq_true hs) (Nat.le_of_ble_eq_true hst) hl rfl hc (fun r h1 q => by obtain ⟨rfl, rfl⟩ := q; exact k)
theorem Ex_cI7 {a1 a2 a3 a4 a5 a6 a7 : Value} (hd : decode μ.2.1 pc = .ok (.invokespecial idx, 3)) (hk : mj_KI μ ν idx 7) (hc : Cl S ν [.ref x, a1, a2, a3, a4, a5, a6, a7] h Qr) (k : ∀ r h1, Qr r h1 → Ex S μ (pc + 3) ls (r.toList ++ st) h1 Q) (hs : Nat.ble (mj_sl [.ref x, a1, a2, a3, a4, a5, a6, a7]).length ν.2.2.1 = true := by rfl) (hst : Nat.ble (mj_cat st) 8 = true := by rfl) (hl : ls.length = μ.2.2.1 := by rfl) : Ex S μ pc ls (a7 :: a6 :: a5 :: a4 :: a3 :: a2 :: a1 :: .ref x :: st) h Q := Ex_callI hd hk [a1, a2, a3, a4, a5, a6, a7] rfl (Nat.le_of_ble_eq_true hs) (Nat.le_of_ble_eq_true hst) hl rfl hc k
theorem Ex_cN7 {a1 a2 a3 a4 a5 a6 a7 : Value} (hd : decode μ.2.1 pc = .ok (.invokespecial idx, 3)) (hk : mj_KN μ ν idx 7) (hc : Cl S ν [.ref x, a1, a2, a3, a4, a5, a6, a7] h Qr) (k : ∀ r h1, Qr r h1 → Ex S μ (pc + 3) ls (r.toList ++ st) h1 Q) (hs : Nat.ble (mj_sl [.ref x, a1, a2, a3, a4, a5, a6, a7]).length ν.2.2.1 = true := by rfl) (hst : Nat.ble (mj_cat st) 8 = true := by rfl) (hl : ls.length = μ.2.2.1 := by rfl) : Ex S μ pc ls (a7 :: a6 :: a5 :: a4 :: a3 :: a2 :: a1 :: .ref x :: st) h Q := Ex_callN hd hk [a1, a2, a3, a4, a5, a6, a7] rfl (Nat.le_of_ble_eq_true hs) (Nat.le_of_ble_eq_true hst) hl rfl hc k
theorem Ex_getIE {n k : Nat} {fin : Bool} {ty : FieldType} {y : Int32} (hd : decode μ.2.1 pc = .ok (.getfield idx, 3)) (hF : mj_F μ.1.cls idx ci k n fin ty) (hty : mj_isR ty = false) (ht : mT h x = some (10 + ci, n)) (hv : mI h x k = y) (kk : Ex S μ (pc + 3) ls (.int y :: st) h Q) : Ex S μ pc ls (.ref x :: st) h Q := by
  subst hv; exact Ex_getI hd hF hty ht kk
end MJQ
def statT : List (Nat × Nat) := [(20, 15), (15, 6), (0, 40), (0, 40), (2, 40), (0, 40), (1, 40), (11, 11), (12, 4), (0, 320), (1, 340), (0, 64), (2, 64), (0, 256), (0, 64), (0, 40), (1, 5), (0, 64), (19, 13), (0, 64), (0, 64), (17, 3), (0, 6000), (3, 6000), (4, 16), (14, 5), (0, 40), (0, 40), (0, 2400), (10, 3), (0, 400), (10, 3), (0, 3600), (10, 3), (0, 3600), (0, 3600), (5, 8), (6, 6), (21, 55), (0, 40), (0, 40), (0, 40), (2, 40), (1, 40), (0, 6000), (0, 6000), (0, 360000), (0, 960), (0, 16), (0, 40), (0, 40), (0, 2400), (0, 400), (0, 400), (2, 400), (2, 400), (0, 8), (0, 8), (0, 5120), (0, 7200), (0, 120), (0, 120), (1, 40), (1, 40), (0, 6), (0, 6), (0, 384), (0, 384), (0, 240), (0, 64), (0, 40), (0, 64), (0, 65), (0, 65)]
def statR : List (Nat × Nat × Nat) := [(0, 0, 1), (0, 1, 21), (0, 2, 24), (0, 4, 25), (0, 5, 29), (0, 6, 31), (0, 7, 33), (0, 8, 35), (0, 9, 36), (0, 11, 37), (0, 13, 7), (0, 14, 18), (1, 1, 2), (1, 2, 3), (1, 3, 4), (1, 4, 5), (1, 5, 6), (7, 0, 8), (7, 4, 11), (7, 5, 12), (7, 6, 13), (7, 7, 14), (7, 8, 15), (7, 9, 16), (7, 10, 17), (8, 0, 1), (8, 2, 9), (8, 3, 10), (18, 0, 7), (18, 1, 1), (18, 2, 19), (18, 3, 20), (21, 1, 22), (21, 2, 23), (25, 2, 26), (25, 3, 27), (25, 4, 28), (29, 2, 30), (31, 2, 32), (33, 2, 34), (38, 0, 39), (38, 1, 40), (38, 2, 41), (38, 3, 42), (38, 4, 43), (38, 6, 44), (38, 7, 45), (38, 8, 46), (38, 10, 47), (38, 11, 48), (38, 13, 49), (38, 14, 50), (38, 15, 51), (38, 20, 52), (38, 21, 53), (38, 22, 54), (38, 23, 55), (38, 26, 56), (38, 27, 57), (38, 28, 58), (38, 30, 59), (38, 31, 60), (38, 32, 61), (38, 33, 62), (38, 34, 63), (38, 35, 64), (38, 36, 65), (38, 37, 66), (38, 38, 67), (38, 39, 68), (38, 44, 69), (38, 45, 70), (38, 46, 71), (38, 47, 72), (38, 48, 73)]
/-- the cells of the two objects: their kinds and lengths, and which field holds which -/
def HT (h : mj_H) : Prop := (∀ k t, statT[k]? = some t → mT h k = some t) ∧ ∀ q ∈ statR, mR h q.1 q.2.1 = some q.2.2
section MJT
variable {h : mj_H}
theorem t_0 (hs : HT h) : mT h 0 = some (20, 15) := hs.1 0 _ rfl
theorem t_1 (hs : HT h) : mT h 1 = some (15, 6) := hs.1 1 _ rfl
theorem t_2 (hs : HT h) : mT h 2 = some (0, 40) := hs.1 2 _ rfl
theorem t_3 (hs : HT h) : mT h 3 = some (0, 40) := hs.1 3 _ rfl
theorem t_4 (hs : HT h) : mT h 4 = some (2, 40) := hs.1 4 _ rfl
theorem t_5 (hs : HT h) : mT h 5 = some (0, 40) := hs.1 5 _ rfl
theorem t_6 (hs : HT h) : mT h 6 = some (1, 40) := hs.1 6 _ rfl
theorem t_7 (hs : HT h) : mT h 7 = some (11, 11) := hs.1 7 _ rfl
theorem t_8 (hs : HT h) : mT h 8 = some (12, 4) := hs.1 8 _ rfl
theorem t_9 (hs : HT h) : mT h 9 = some (0, 320) := hs.1 9 _ rfl
theorem t_10 (hs : HT h) : mT h 10 = some (1, 340) := hs.1 10 _ rfl
theorem t_11 (hs : HT h) : mT h 11 = some (0, 64) := hs.1 11 _ rfl
theorem t_12 (hs : HT h) : mT h 12 = some (2, 64) := hs.1 12 _ rfl
theorem t_13 (hs : HT h) : mT h 13 = some (0, 256) := hs.1 13 _ rfl
theorem t_14 (hs : HT h) : mT h 14 = some (0, 64) := hs.1 14 _ rfl
theorem t_15 (hs : HT h) : mT h 15 = some (0, 40) := hs.1 15 _ rfl
theorem t_16 (hs : HT h) : mT h 16 = some (1, 5) := hs.1 16 _ rfl
theorem t_17 (hs : HT h) : mT h 17 = some (0, 64) := hs.1 17 _ rfl
theorem t_18 (hs : HT h) : mT h 18 = some (19, 13) := hs.1 18 _ rfl
theorem t_19 (hs : HT h) : mT h 19 = some (0, 64) := hs.1 19 _ rfl
theorem t_20 (hs : HT h) : mT h 20 = some (0, 64) := hs.1 20 _ rfl
theorem t_21 (hs : HT h) : mT h 21 = some (17, 3) := hs.1 21 _ rfl
theorem t_22 (hs : HT h) : mT h 22 = some (0, 6000) := hs.1 22 _ rfl
theorem t_23 (hs : HT h) : mT h 23 = some (3, 6000) := hs.1 23 _ rfl
theorem t_24 (hs : HT h) : mT h 24 = some (4, 16) := hs.1 24 _ rfl
theorem t_25 (hs : HT h) : mT h 25 = some (14, 5) := hs.1 25 _ rfl
theorem t_26 (hs : HT h) : mT h 26 = some (0, 40) := hs.1 26 _ rfl
theorem t_27 (hs : HT h) : mT h 27 = some (0, 40) := hs.1 27 _ rfl
theorem t_28 (hs : HT h) : mT h 28 = some (0, 2400) := hs.1 28 _ rfl
theorem t_29 (hs : HT h) : mT h 29 = some (10, 3) := hs.1 29 _ rfl
theorem t_30 (hs : HT h) : mT h 30 = some (0, 400) := hs.1 30 _ rfl
theorem t_31 (hs : HT h) : mT h 31 = some (10, 3) := hs.1 31 _ rfl
theorem t_32 (hs : HT h) : mT h 32 = some (0, 3600) := hs.1 32 _ rfl
theorem t_33 (hs : HT h) : mT h 33 = some (10, 3) := hs.1 33 _ rfl
theorem t_34 (hs : HT h) : mT h 34 = some (0, 3600) := hs.1 34 _ rfl
theorem t_35 (hs : HT h) : mT h 35 = some (0, 3600) := hs.1 35 _ rfl
theorem t_36 (hs : HT h) : mT h 36 = some (5, 8) := hs.1 36 _ rfl
theorem t_37 (hs : HT h) : mT h 37 = some (6, 6) := hs.1 37 _ rfl
theorem t_38 (hs : HT h) : mT h 38 = some (21, 55) := hs.1 38 _ rfl
theorem t_39 (hs : HT h) : mT h 39 = some (0, 40) := hs.1 39 _ rfl
theorem t_40 (hs : HT h) : mT h 40 = some (0, 40) := hs.1 40 _ rfl
theorem t_41 (hs : HT h) : mT h 41 = some (0, 40) := hs.1 41 _ rfl
theorem t_42 (hs : HT h) : mT h 42 = some (2, 40) := hs.1 42 _ rfl
theorem t_43 (hs : HT h) : mT h 43 = some (1, 40) := hs.1 43 _ rfl
theorem t_44 (hs : HT h) : mT h 44 = some (0, 6000) := hs.1 44 _ rfl
theorem t_45 (hs : HT h) : mT h 45 = some (0, 6000) := hs.1 45 _ rfl
theorem t_46 (hs : HT h) : mT h 46 = some (0, 360000) := hs.1 46 _ rfl
theorem t_47 (hs : HT h) : mT h 47 = some (0, 960) := hs.1 47 _ rfl
theorem t_48 (hs : HT h) : mT h 48 = some (0, 16) := hs.1 48 _ rfl
theorem t_49 (hs : HT h) : mT h 49 = some (0, 40) := hs.1 49 _ rfl
theorem t_50 (hs : HT h) : mT h 50 = some (0, 40) := hs.1 50 _ rfl
theorem t_51 (hs : HT h) : mT h 51 = some (0, 2400) := hs.1 51 _ rfl
theorem t_52 (hs : HT h) : mT h 52 = some (0, 400) := hs.1 52 _ rfl
theorem t_53 (hs : HT h) : mT h 53 = some (0, 400) := hs.1 53 _ rfl
theorem t_54 (hs : HT h) : mT h 54 = some (2, 400) := hs.1 54 _ rfl
theorem t_55 (hs : HT h) : mT h 55 = some (2, 400) := hs.1 55 _ rfl
theorem t_56 (hs : HT h) : mT h 56 = some (0, 8) := hs.1 56 _ rfl
theorem t_57 (hs : HT h) : mT h 57 = some (0, 8) := hs.1 57 _ rfl
theorem t_58 (hs : HT h) : mT h 58 = some (0, 5120) := hs.1 58 _ rfl
theorem t_59 (hs : HT h) : mT h 59 = some (0, 7200) := hs.1 59 _ rfl
theorem t_60 (hs : HT h) : mT h 60 = some (0, 120) := hs.1 60 _ rfl
theorem t_61 (hs : HT h) : mT h 61 = some (0, 120) := hs.1 61 _ rfl
theorem t_62 (hs : HT h) : mT h 62 = some (1, 40) := hs.1 62 _ rfl
theorem t_63 (hs : HT h) : mT h 63 = some (1, 40) := hs.1 63 _ rfl
theorem t_64 (hs : HT h) : mT h 64 = some (0, 6) := hs.1 64 _ rfl
theorem t_65 (hs : HT h) : mT h 65 = some (0, 6) := hs.1 65 _ rfl
theorem t_66 (hs : HT h) : mT h 66 = some (0, 384) := hs.1 66 _ rfl
theorem t_67 (hs : HT h) : mT h 67 = some (0, 384) := hs.1 67 _ rfl
theorem t_68 (hs : HT h) : mT h 68 = some (0, 240) := hs.1 68 _ rfl
theorem t_69 (hs : HT h) : mT h 69 = some (0, 64) := hs.1 69 _ rfl
theorem t_70 (hs : HT h) : mT h 70 = some (0, 40) := hs.1 70 _ rfl
theorem t_71 (hs : HT h) : mT h 71 = some (0, 64) := hs.1 71 _ rfl
theorem t_72 (hs : HT h) : mT h 72 = some (0, 65) := hs.1 72 _ rfl
theorem t_73 (hs : HT h) : mT h 73 = some (0, 65) := hs.1 73 _ rfl
theorem r_0_0 (hs : HT h) : va_rf (mR h 0 0) = .ref 1 := by rw [hs.2 (0, 0, 1) (by decide)]; rfl
theorem r_0_1 (hs : HT h) : va_rf (mR h 0 1) = .ref 21 := by rw [hs.2 (0, 1, 21) (by decide)]; rfl
theorem r_0_2 (hs : HT h) : va_rf (mR h 0 2) = .ref 24 := by rw [hs.2 (0, 2, 24) (by decide)]; rfl
theorem r_0_4 (hs : HT h) : va_rf (mR h 0 4) = .ref 25 := by rw [hs.2 (0, 4, 25) (by decide)]; rfl
theorem r_0_5 (hs : HT h) : va_rf (mR h 0 5) = .ref 29 := by rw [hs.2 (0, 5, 29) (by decide)]; rfl
theorem r_0_6 (hs : HT h) : va_rf (mR h 0 6) = .ref 31 := by rw [hs.2 (0, 6, 31) (by decide)]; rfl
theorem r_0_7 (hs : HT h) : va_rf (mR h 0 7) = .ref 33 := by rw [hs.2 (0, 7, 33) (by decide)]; rfl
theorem r_0_8 (hs : HT h) : va_rf (mR h 0 8) = .ref 35 := by rw [hs.2 (0, 8, 35) (by decide)]; rfl
theorem r_0_9 (hs : HT h) : va_rf (mR h 0 9) = .ref 36 := by rw [hs.2 (0, 9, 36) (by decide)]; rfl
theorem r_0_11 (hs : HT h) : va_rf (mR h 0 11) = .ref 37 := by rw [hs.2 (0, 11, 37) (by decide)]; rfl
theorem r_0_13 (hs : HT h) : va_rf (mR h 0 13) = .ref 7 := by rw [hs.2 (0, 13, 7) (by decide)]; rfl
theorem r_0_14 (hs : HT h) : va_rf (mR h 0 14) = .ref 18 := by rw [hs.2 (0, 14, 18) (by decide)]; rfl
theorem r_1_1 (hs : HT h) : va_rf (mR h 1 1) = .ref 2 := by rw [hs.2 (1, 1, 2) (by decide)]; rfl
theorem r_1_2 (hs : HT h) : va_rf (mR h 1 2) = .ref 3 := by rw [hs.2 (1, 2, 3) (by decide)]; rfl
theorem r_1_3 (hs : HT h) : va_rf (mR h 1 3) = .ref 4 := by rw [hs.2 (1, 3, 4) (by decide)]; rfl
theorem r_1_4 (hs : HT h) : va_rf (mR h 1 4) = .ref 5 := by rw [hs.2 (1, 4, 5) (by decide)]; rfl
theorem r_1_5 (hs : HT h) : va_rf (mR h 1 5) = .ref 6 := by rw [hs.2 (1, 5, 6) (by decide)]; rfl
theorem r_7_0 (hs : HT h) : va_rf (mR h 7 0) = .ref 8 := by rw [hs.2 (7, 0, 8) (by decide)]; rfl
theorem r_7_4 (hs : HT h) : va_rf (mR h 7 4) = .ref 11 := by rw [hs.2 (7, 4, 11) (by decide)]; rfl
theorem r_7_5 (hs : HT h) : va_rf (mR h 7 5) = .ref 12 := by rw [hs.2 (7, 5, 12) (by decide)]; rfl
theorem r_7_6 (hs : HT h) : va_rf (mR h 7 6) = .ref 13 := by rw [hs.2 (7, 6, 13) (by decide)]; rfl
theorem r_7_7 (hs : HT h) : va_rf (mR h 7 7) = .ref 14 := by rw [hs.2 (7, 7, 14) (by decide)]; rfl
theorem r_7_8 (hs : HT h) : va_rf (mR h 7 8) = .ref 15 := by rw [hs.2 (7, 8, 15) (by decide)]; rfl
theorem r_7_9 (hs : HT h) : va_rf (mR h 7 9) = .ref 16 := by rw [hs.2 (7, 9, 16) (by decide)]; rfl
theorem r_7_10 (hs : HT h) : va_rf (mR h 7 10) = .ref 17 := by rw [hs.2 (7, 10, 17) (by decide)]; rfl
theorem r_8_0 (hs : HT h) : va_rf (mR h 8 0) = .ref 1 := by rw [hs.2 (8, 0, 1) (by decide)]; rfl
theorem r_8_2 (hs : HT h) : va_rf (mR h 8 2) = .ref 9 := by rw [hs.2 (8, 2, 9) (by decide)]; rfl
theorem r_8_3 (hs : HT h) : va_rf (mR h 8 3) = .ref 10 := by rw [hs.2 (8, 3, 10) (by decide)]; rfl
theorem r_18_0 (hs : HT h) : va_rf (mR h 18 0) = .ref 7 := by rw [hs.2 (18, 0, 7) (by decide)]; rfl
theorem r_18_1 (hs : HT h) : va_rf (mR h 18 1) = .ref 1 := by rw [hs.2 (18, 1, 1) (by decide)]; rfl
theorem r_18_2 (hs : HT h) : va_rf (mR h 18 2) = .ref 19 := by rw [hs.2 (18, 2, 19) (by decide)]; rfl
theorem r_18_3 (hs : HT h) : va_rf (mR h 18 3) = .ref 20 := by rw [hs.2 (18, 3, 20) (by decide)]; rfl
theorem r_21_1 (hs : HT h) : va_rf (mR h 21 1) = .ref 22 := by rw [hs.2 (21, 1, 22) (by decide)]; rfl
theorem r_21_2 (hs : HT h) : va_rf (mR h 21 2) = .ref 23 := by rw [hs.2 (21, 2, 23) (by decide)]; rfl
theorem r_25_2 (hs : HT h) : va_rf (mR h 25 2) = .ref 26 := by rw [hs.2 (25, 2, 26) (by decide)]; rfl
theorem r_25_3 (hs : HT h) : va_rf (mR h 25 3) = .ref 27 := by rw [hs.2 (25, 3, 27) (by decide)]; rfl
theorem r_25_4 (hs : HT h) : va_rf (mR h 25 4) = .ref 28 := by rw [hs.2 (25, 4, 28) (by decide)]; rfl
theorem r_29_2 (hs : HT h) : va_rf (mR h 29 2) = .ref 30 := by rw [hs.2 (29, 2, 30) (by decide)]; rfl
theorem r_31_2 (hs : HT h) : va_rf (mR h 31 2) = .ref 32 := by rw [hs.2 (31, 2, 32) (by decide)]; rfl
theorem r_33_2 (hs : HT h) : va_rf (mR h 33 2) = .ref 34 := by rw [hs.2 (33, 2, 34) (by decide)]; rfl
theorem r_38_0 (hs : HT h) : va_rf (mR h 38 0) = .ref 39 := by rw [hs.2 (38, 0, 39) (by decide)]; rfl
theorem r_38_1 (hs : HT h) : va_rf (mR h 38 1) = .ref 40 := by rw [hs.2 (38, 1, 40) (by decide)]; rfl
theorem r_38_2 (hs : HT h) : va_rf (mR h 38 2) = .ref 41 := by rw [hs.2 (38, 2, 41) (by decide)]; rfl
theorem r_38_3 (hs : HT h) : va_rf (mR h 38 3) = .ref 42 := by rw [hs.2 (38, 3, 42) (by decide)]; rfl
theorem r_38_4 (hs : HT h) : va_rf (mR h 38 4) = .ref 43 := by rw [hs.2 (38, 4, 43) (by decide)]; rfl
theorem r_38_6 (hs : HT h) : va_rf (mR h 38 6) = .ref 44 := by rw [hs.2 (38, 6, 44) (by decide)]; rfl
theorem r_38_7 (hs : HT h) : va_rf (mR h 38 7) = .ref 45 := by rw [hs.2 (38, 7, 45) (by decide)]; rfl
theorem r_38_8 (hs : HT h) : va_rf (mR h 38 8) = .ref 46 := by rw [hs.2 (38, 8, 46) (by decide)]; rfl
theorem r_38_10 (hs : HT h) : va_rf (mR h 38 10) = .ref 47 := by rw [hs.2 (38, 10, 47) (by decide)]; rfl
theorem r_38_11 (hs : HT h) : va_rf (mR h 38 11) = .ref 48 := by rw [hs.2 (38, 11, 48) (by decide)]; rfl
theorem r_38_13 (hs : HT h) : va_rf (mR h 38 13) = .ref 49 := by rw [hs.2 (38, 13, 49) (by decide)]; rfl
theorem r_38_14 (hs : HT h) : va_rf (mR h 38 14) = .ref 50 := by rw [hs.2 (38, 14, 50) (by decide)]; rfl
theorem r_38_15 (hs : HT h) : va_rf (mR h 38 15) = .ref 51 := by rw [hs.2 (38, 15, 51) (by decide)]; rfl
theorem r_38_20 (hs : HT h) : va_rf (mR h 38 20) = .ref 52 := by rw [hs.2 (38, 20, 52) (by decide)]; rfl
theorem r_38_21 (hs : HT h) : va_rf (mR h 38 21) = .ref 53 := by rw [hs.2 (38, 21, 53) (by decide)]; rfl
theorem r_38_22 (hs : HT h) : va_rf (mR h 38 22) = .ref 54 := by rw [hs.2 (38, 22, 54) (by decide)]; rfl
theorem r_38_23 (hs : HT h) : va_rf (mR h 38 23) = .ref 55 := by rw [hs.2 (38, 23, 55) (by decide)]; rfl
theorem r_38_26 (hs : HT h) : va_rf (mR h 38 26) = .ref 56 := by rw [hs.2 (38, 26, 56) (by decide)]; rfl
theorem r_38_27 (hs : HT h) : va_rf (mR h 38 27) = .ref 57 := by rw [hs.2 (38, 27, 57) (by decide)]; rfl
theorem r_38_28 (hs : HT h) : va_rf (mR h 38 28) = .ref 58 := by rw [hs.2 (38, 28, 58) (by decide)]; rfl
theorem r_38_30 (hs : HT h) : va_rf (mR h 38 30) = .ref 59 := by rw [hs.2 (38, 30, 59) (by decide)]; rfl
theorem r_38_31 (hs : HT h) : va_rf (mR h 38 31) = .ref 60 := by rw [hs.2 (38, 31, 60) (by decide)]; rfl
theorem r_38_32 (hs : HT h) : va_rf (mR h 38 32) = .ref 61 := by rw [hs.2 (38, 32, 61) (by decide)]; rfl
theorem r_38_33 (hs : HT h) : va_rf (mR h 38 33) = .ref 62 := by rw [hs.2 (38, 33, 62) (by decide)]; rfl
theorem r_38_34 (hs : HT h) : va_rf (mR h 38 34) = .ref 63 := by rw [hs.2 (38, 34, 63) (by decide)]; rfl
theorem r_38_35 (hs : HT h) : va_rf (mR h 38 35) = .ref 64 := by rw [hs.2 (38, 35, 64) (by decide)]; rfl
theorem r_38_36 (hs : HT h) : va_rf (mR h 38 36) = .ref 65 := by rw [hs.2 (38, 36, 65) (by decide)]; rfl
theorem r_38_37 (hs : HT h) : va_rf (mR h 38 37) = .ref 66 := by rw [hs.2 (38, 37, 66) (by decide)]; rfl
theorem r_38_38 (hs : HT h) : va_rf (mR h 38 38) = .ref 67 := by rw [hs.2 (38, 38, 67) (by decide)]; rfl
theorem r_38_39 (hs : HT h) : va_rf (mR h 38 39) = .ref 68 := by rw [hs.2 (38, 39, 68) (by decide)]; rfl
theorem r_38_44 (hs : HT h) : va_rf (mR h 38 44) = .ref 69 := by rw [hs.2 (38, 44, 69) (by decide)]; rfl
theorem r_38_45 (hs : HT h) : va_rf (mR h 38 45) = .ref 70 := by rw [hs.2 (38, 45, 70) (by decide)]; rfl
theorem r_38_46 (hs : HT h) : va_rf (mR h 38 46) = .ref 71 := by rw [hs.2 (38, 46, 71) (by decide)]; rfl
theorem r_38_47 (hs : HT h) : va_rf (mR h 38 47) = .ref 72 := by rw [hs.2 (38, 47, 72) (by decide)]; rfl
theorem r_38_48 (hs : HT h) : va_rf (mR h 38 48) = .ref 73 := by rw [hs.2 (38, 48, 73) (by decide)]; rfl
theorem HT_n (hs : HT h) : 74 ≤ mN h := (List.getElem?_eq_some_iff.mp (t_73 hs)).1
theorem HT_wI (hs : HT h) (a k : Nat) (v : Int32) : HT (wI h a k v) := hs
theorem HT_wA (hs : HT h) (a : Nat) (f : Nat → Int32) : HT (wA h a f) := hs
theorem HT_wL (hs : HT h) (a k : Nat) (v : Int64) : HT (wL h a k v) := hs
theorem HT_wR (hs : HT h) {a k : Nat} {v : Option Nat} (ha : a = 23 ∨ a = 24 ∨ a = 36 ∨ a = 37 ∨ 74 ≤ a) : HT (wR h a k v) := by
  refine ⟨hs.1, fun q hq => ?_⟩
  have hne : q.1 ≠ a := by
    have : ∀ q ∈ statR, q.1 < 74 ∧ q.1 ≠ 23 ∧ q.1 ≠ 24 ∧ q.1 ≠ 36 ∧ q.1 ≠ 37 := by decide
    have := this q hq
    omega
  have e := hs.2 q hq
  show (wR h a k v).2.2.2 q.1 q.2.1 = _
  simp only [wR, va_up, if_neg hne]
  exact e
theorem HT_new (hs : HT h) (t n : Nat) : HT (mNew h t n) := by
  refine ⟨fun k t' hk => mT_new_old (hs.1 k t' hk), fun q hq => ?_⟩
  have hlt : q.1 < 74 := (by decide : ∀ q ∈ statR, q.1 < 74) q hq
  have hn := HT_n hs
  have e := hs.2 q hq
  have hne : q.1 ≠ h.1.length := by unfold mN at hn; omega
  show (mNew h t n).2.2.2 q.1 q.2.1 = _
  simp only [mNew, va_up, if_neg hne]
  exact e
end MJT
section MJM
variable (h : mj_H) (a k b j : Nat) (v : Int32) (w : Int64) (r : Option Nat) (f : Nat → Int32)
theorem mI_wI : mI (wI h a k v) b j = if b = a then (if j = k then v else mI h a j) else mI h b j := by
  by_cases hb : b = a
  · subst hb; simp [mI, wI, wA, va_up]
  · simp [mI, wI, wA, va_up, hb]
theorem mI_wIe : mI (wI h a k v) b = if b = a then va_up (mI h a) k v else mI h b := by
  by_cases hb : b = a
  · subst hb; simp [mI, wI, wA, va_up]
  · simp [mI, wI, wA, va_up, hb]
theorem mI_wA : mI (wA h a f) b = if b = a then f else mI h b := by
  by_cases hb : b = a
  · subst hb; simp [mI, wA, va_up]
  · simp [mI, wA, va_up, hb]
theorem mI_wL : mI (wL h a k w) = mI h := rfl
theorem mI_wR : mI (wR h a k r) = mI h := rfl
theorem mL_wI : mL (wI h a k v) = mL h := rfl
theorem mL_wA : mL (wA h a f) = mL h := rfl
theorem mL_wR : mL (wR h a k r) = mL h := rfl
theorem mL_wL : mL (wL h a k w) b = if b = a then va_up (mL h a) k w else mL h b := by
  by_cases hb : b = a
  · subst hb; simp [mL, wL, va_up]
  · simp [mL, wL, va_up, hb]
theorem mR_wI : mR (wI h a k v) = mR h := rfl
theorem mR_wA : mR (wA h a f) = mR h := rfl
theorem mR_wL : mR (wL h a k w) = mR h := rfl
theorem mR_wR : mR (wR h a k r) b = if b = a then va_up (mR h a) k r else mR h b := by
  by_cases hb : b = a
  · subst hb; simp [mR, wR, va_up]
  · simp [mR, wR, va_up, hb]
theorem mT_wI : mT (wI h a k v) = mT h := rfl
theorem mT_wA : mT (wA h a f) = mT h := rfl
theorem mT_wL : mT (wL h a k w) = mT h := rfl
theorem mT_wR : mT (wR h a k r) = mT h := rfl
theorem mI_new (t n : Nat) : mI (mNew h t n) b = if b = mN h then (fun _ => 0) else mI h b := rfl
theorem mL_new (t n : Nat) : mL (mNew h t n) b = if b = mN h then (fun _ => 0) else mL h b := rfl
theorem mR_new (t n : Nat) : mR (mNew h t n) b = if b = mN h then (fun _ => none) else mR h b := rfl
end MJM
