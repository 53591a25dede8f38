/-! WHICH CELLS A METHOD MAY WRITE: no byte array but by feed (laid by wip/whole/gen/gen9.py) -/
def Wn : Nat → Int → Bool
  | 13, k => [27, 28, 30, 31, 32, 33, 34, 35, 36, 37, 38, 39, 40, 44, 45, 47, 48, 49, 50, 51, 58, 59].contains k
  | 40, _ => true
  | 41, _ => true
  | 44, _ => true
  | _, _ => false
theorem kn_sX12_isIn : KS Wn sX12_isIn := (KS_Ret (KE_B (KC_And (KC_B KE_V KE_V) (KC_B KE_V KE_V))))
theorem knX12_isIn : KM Wn mX12_isIn := KM_q kn_sX12_isIn
theorem kn_sX12_held : KS Wn sX12_held := (KS_Ret (KE_If (KC_B KE_V KE_I) KE_I (KE_If (KC_B KE_V KE_I) KE_I KE_V)))
theorem knX12_held : KM Wn mX12_held := KM_q kn_sX12_held
theorem kn_sX12_own : KS Wn sX12_own := (KS_Ret (KE_2 (KE_2 KE_I KE_V) KE_V))
theorem knX12_own : KM Wn mX12_own := KM_q kn_sX12_own
theorem kn_cX12_clearBank_1 : KC Wn cX12_clearBank_1 := (KC_B KE_V KE_I)
theorem kn_bX12_clearBank_1 : KS Wn bX12_clearBank_1 := (KS_Arr (fun _ => rfl) (KE_F KE_V) (KE_C knX12_own (KA_1 KE_V (KA_1 KE_V KA_0))) KE_I)
theorem kn_uX12_clearBank_1 : KS Wn uX12_clearBank_1 := KS_Inc
theorem kn_sX12_clearBank : KS Wn sX12_clearBank := (KS_Seq (KS_Arr (fun _ => rfl) (KE_F KE_V) KE_V KE_I) (KS_Seq (KS_Arr (fun _ => rfl) (KE_F KE_V) KE_V KE_I) (KS_Seq (KS_Arr (fun _ => rfl) (KE_F KE_V) KE_V KE_I) (KS_Seq (KS_Arr (fun _ => rfl) (KE_F KE_V) KE_V KE_I) (KS_Seq (KS_Arr (fun _ => rfl) (KE_F KE_V) KE_V KE_I) (KS_Seq (KS_Arr (fun _ => rfl) (KE_F KE_V) KE_V KE_I) (KS_Seq (KS_Seq (KS_Set KE_I) (KS_While kn_cX12_clearBank_1 kn_bX12_clearBank_1 kn_uX12_clearBank_1)) KS_RetV)))))))
theorem knX12_clearBank : KM Wn mX12_clearBank := KM_q kn_sX12_clearBank
theorem kn_sX12_end : KS Wn sX12_end := (KS_Seq (KS_If (KC_Or (KC_B KE_V KE_I) (KC_B KE_V (KE_F KE_V))) (KS_Ret KE_I) KS_Skip) (KS_Seq (KS_Put rfl KE_V KE_V) (KS_Ret KE_V)))
theorem knX12_end : KM Wn mX12_end := KM_q kn_sX12_end
theorem kn_sX12_signAt : KS Wn sX12_signAt := (KS_Ret (KE_If (KC_B KE_V (KE_F KE_V)) (KE_A (KE_F KE_V) KE_V) KE_I))
theorem knX12_signAt : KM Wn mX12_signAt := KM_q kn_sX12_signAt
theorem kn_sX12_isLetter : KS Wn sX12_isLetter := (KS_Ret (KE_B (KC_And (KC_B KE_V KE_I) (KC_B KE_V KE_I))))
theorem knX12_isLetter : KM Wn mX12_isLetter := KM_q kn_sX12_isLetter
theorem kn_sX12_isDigit : KS Wn sX12_isDigit := (KS_Ret (KE_B (KC_And (KC_B KE_V KE_I) (KC_B KE_V KE_I))))
theorem knX12_isDigit : KM Wn mX12_isDigit := KM_q kn_sX12_isDigit
theorem kn_sX12_isSign : KS Wn sX12_isSign := (KS_Ret (KE_B (KC_Or (KC_Or (KC_Or (KC_Or (KC_Or (KC_Or (KC_Or (KC_B KE_V KE_I) (KC_B KE_V KE_I)) (KC_B KE_V KE_I)) (KC_B KE_V KE_I)) (KC_B KE_V KE_I)) (KC_B KE_V KE_I)) (KC_B KE_V KE_I)) (KC_B KE_V KE_I))))
theorem knX12_isSign : KM Wn mX12_isSign := KM_q kn_sX12_isSign
theorem kn_sX12_isBlank : KS Wn sX12_isBlank := (KS_Ret (KE_B (KC_And (KC_B KE_V (KE_F KE_V)) (KC_Or (KC_B (KE_A (KE_F KE_V) KE_V) KE_I) (KC_B (KE_A (KE_F KE_V) KE_V) KE_I)))))
theorem knX12_isBlank : KM Wn mX12_isBlank := KM_q kn_sX12_isBlank
theorem kn_cX12_scanNumber_1 : KC Wn cX12_scanNumber_1 := (KC_E (KE_C knX12_isDigit (KA_1 (KE_CV knX12_signAt (KA_1 KE_V (KA_1 (KE_F KE_V) KA_0))) KA_0)))
theorem kn_bX12_scanNumber_1 : KS Wn bX12_scanNumber_1 := (KS_Seq (KS_Put rfl KE_V (KE_If (KC_B (KE_F KE_V) KE_I) (KE_F KE_V) (KE_2 (KE_2 (KE_2 KE_I (KE_F KE_V)) (KE_CV knX12_signAt (KA_1 KE_V (KA_1 (KE_F KE_V) KA_0)))) KE_I))) (KS_PutC rfl KE_V KE_I))
theorem kn_uX12_scanNumber_1 : KS Wn uX12_scanNumber_1 := KS_Skip
theorem kn_sX12_scanNumber : KS Wn sX12_scanNumber := (KS_Seq (KS_Put rfl KE_V KE_I) (KS_Seq (KS_Put rfl KE_V KE_I) (KS_Seq (KS_Put rfl KE_V (KE_F KE_V)) (KS_Seq (KS_While kn_cX12_scanNumber_1 kn_bX12_scanNumber_1 kn_uX12_scanNumber_1) KS_RetV))))
theorem knX12_scanNumber : KM Wn mX12_scanNumber := KM_q kn_sX12_scanNumber
theorem kn_cX12_isSame_1 : KC Wn cX12_isSame_1 := (KC_B KE_V (KE_2 KE_V KE_V))
theorem kn_bX12_isSame_1 : KS Wn bX12_isSame_1 := (KS_If (KC_B (KE_A (KE_F KE_V) (KE_2 KE_V KE_V)) (KE_A (KE_F KE_V) (KE_2 (KE_F KE_V) KE_V))) (KS_Ret KE_I) KS_Skip)
theorem kn_uX12_isSame_1 : KS Wn uX12_isSame_1 := KS_Inc
theorem kn_sX12_isSame : KS Wn sX12_isSame := (KS_Seq (KS_If (KC_B (KE_2 KE_V KE_V) (KE_2 (KE_F KE_V) (KE_F KE_V))) (KS_Ret KE_I) KS_Skip) (KS_Seq (KS_Seq (KS_Set KE_I) (KS_While kn_cX12_isSame_1 kn_bX12_isSame_1 kn_uX12_isSame_1)) (KS_Ret KE_I)))
theorem knX12_isSame : KM Wn mX12_isSame := KM_q kn_sX12_isSame
theorem kn_cX12_scanWord_1 : KC Wn cX12_scanWord_1 := (KC_E (KE_C knX12_isLetter (KA_1 (KE_CV knX12_signAt (KA_1 KE_V (KA_1 (KE_F KE_V) KA_0))) KA_0)))
theorem kn_bX12_scanWord_1 : KS Wn bX12_scanWord_1 := (KS_PutC rfl KE_V KE_I)
theorem kn_uX12_scanWord_1 : KS Wn uX12_scanWord_1 := KS_Skip
theorem kn_cX12_scanWord_3 : KC Wn cX12_scanWord_3 := (KC_B (KE_A (KE_F KE_V) KE_V) KE_I)
theorem kn_bX12_scanWord_3 : KS Wn bX12_scanWord_3 := KS_Inc
theorem kn_uX12_scanWord_3 : KS Wn uX12_scanWord_3 := KS_Skip
theorem kn_cX12_scanWord_2 : KC Wn cX12_scanWord_2 := (KC_B KE_V KE_I)
theorem kn_bX12_scanWord_2 : KS Wn bX12_scanWord_2 := (KS_Seq (KS_Set KE_V) (KS_Seq (KS_While kn_cX12_scanWord_3 kn_bX12_scanWord_3 kn_uX12_scanWord_3) (KS_Seq (KS_If (KC_E (KE_CV knX12_isSame (KA_1 KE_V (KA_1 KE_V (KA_1 KE_V KA_0))))) (KS_Put rfl KE_V KE_V) KS_Skip) (KS_Set (KE_2 KE_V KE_I)))))
theorem kn_uX12_scanWord_2 : KS Wn uX12_scanWord_2 := KS_Inc
theorem kn_sX12_scanWord : KS Wn sX12_scanWord := (KS_Seq (KS_Put rfl KE_V KE_I) (KS_Seq (KS_Put rfl KE_V (KE_F KE_V)) (KS_Seq (KS_While kn_cX12_scanWord_1 kn_bX12_scanWord_1 kn_uX12_scanWord_1) (KS_Seq (KS_Put rfl KE_V KE_I) (KS_Seq (KS_Set KE_I) (KS_Seq (KS_Seq (KS_Set KE_I) (KS_While kn_cX12_scanWord_2 kn_bX12_scanWord_2 kn_uX12_scanWord_2)) KS_RetV))))))
theorem knX12_scanWord : KM Wn mX12_scanWord := KM_q kn_sX12_scanWord
theorem kn_cX12_scan_1 : KC Wn cX12_scan_1 := (KC_E (KE_CV knX12_isBlank (KA_1 KE_V (KA_1 (KE_F KE_V) KA_0))))
theorem kn_bX12_scan_1 : KS Wn bX12_scan_1 := (KS_PutC rfl KE_V KE_I)
theorem kn_uX12_scan_1 : KS Wn uX12_scan_1 := KS_Skip
theorem kn_sX12_scan : KS Wn sX12_scan := (KS_Seq (KS_Put rfl KE_V (KE_F KE_V)) (KS_Seq (KS_While kn_cX12_scan_1 kn_bX12_scan_1 kn_uX12_scan_1) (KS_Seq (KS_Put rfl KE_V (KE_2 (KE_F KE_V) KE_I)) (KS_Seq (KS_Set (KE_CV knX12_signAt (KA_1 KE_V (KA_1 (KE_F KE_V) KA_0)))) (KS_Seq (KS_If (KC_B (KE_F KE_V) (KE_F KE_V)) (KS_Seq (KS_Put rfl KE_V (KE_F KE_V)) (KS_Put rfl KE_V KE_I)) (KS_If (KC_E (KE_C knX12_isLetter (KA_1 KE_V KA_0))) (KS_Do (KE_CV knX12_scanWord (KA_1 KE_V KA_0))) (KS_If (KC_E (KE_C knX12_isDigit (KA_1 KE_V KA_0))) (KS_Do (KE_CV knX12_scanNumber (KA_1 KE_V KA_0))) (KS_Put rfl KE_V (KE_If (KC_E (KE_C knX12_isSign (KA_1 KE_V KA_0))) KE_I KE_I))))) KS_RetV)))))
theorem knX12_scan : KM Wn mX12_scan := KM_q kn_sX12_scan
theorem kn_sX12_fail : KS Wn sX12_fail := (KS_Seq (KS_If (KC_B (KE_F KE_V) KE_I) KS_RetV KS_Skip) (KS_Seq (KS_Put rfl KE_V KE_V) (KS_Seq (KS_Put rfl KE_V (KE_F KE_V)) KS_RetV)))
theorem knX12_fail : KM Wn mX12_fail := KM_q kn_sX12_fail
theorem kn_sX12_isAt : KS Wn sX12_isAt := (KS_Ret (KE_B (KC_And (KC_And (KC_B (KE_F KE_V) KE_I) (KC_B (KE_F KE_V) KE_I)) (KC_B (KE_CV knX12_signAt (KA_1 KE_V (KA_1 (KE_F KE_V) KA_0))) KE_V))))
theorem knX12_isAt : KM Wn mX12_isAt := KM_q kn_sX12_isAt
theorem kn_sX12_isWord : KS Wn sX12_isWord := (KS_Ret (KE_B (KC_And (KC_And (KC_B (KE_F KE_V) KE_I) (KC_B (KE_F KE_V) KE_I)) (KC_B (KE_F KE_V) KE_V))))
theorem knX12_isWord : KM Wn mX12_isWord := KM_q kn_sX12_isWord
theorem kn_sX12_need : KS Wn sX12_need := (KS_Seq (KS_If (KC_E (KE_CV knX12_isAt (KA_1 KE_V (KA_1 KE_V KA_0)))) (KS_Do (KE_CV knX12_scan (KA_1 KE_V KA_0))) (KS_Do (KE_CV knX12_fail (KA_1 KE_V (KA_1 KE_I KA_0))))) KS_RetV)
theorem knX12_need : KM Wn mX12_need := KM_q kn_sX12_need
theorem kn_sX12_needWord : KS Wn sX12_needWord := (KS_Seq (KS_If (KC_E (KE_CV knX12_isWord (KA_1 KE_V (KA_1 KE_V KA_0)))) (KS_Do (KE_CV knX12_scan (KA_1 KE_V KA_0))) (KS_Do (KE_CV knX12_fail (KA_1 KE_V (KA_1 KE_I KA_0))))) KS_RetV)
theorem knX12_needWord : KM Wn mX12_needWord := KM_q kn_sX12_needWord
theorem kn_sX12_numeral : KS Wn sX12_numeral := (KS_Seq (KS_If (KC_B (KE_F KE_V) KE_I) (KS_Do (KE_CV knX12_fail (KA_1 KE_V (KA_1 KE_I KA_0)))) (KS_If (KC_Not (KC_E (KE_C knX12_isIn (KA_1 (KE_F KE_V) (KA_1 KE_V (KA_1 KE_V KA_0)))))) (KS_Do (KE_CV knX12_fail (KA_1 KE_V (KA_1 KE_I KA_0)))) KS_Skip)) (KS_Seq (KS_Set (KE_F KE_V)) (KS_Seq (KS_If (KC_B (KE_F KE_V) KE_I) (KS_Do (KE_CV knX12_scan (KA_1 KE_V KA_0))) KS_Skip) (KS_Ret KE_V))))
theorem knX12_numeral : KM Wn mX12_numeral := KM_q kn_sX12_numeral
theorem kn_sX12_isName : KS Wn sX12_isName := (KS_Ret (KE_B (KC_And (KC_And (KC_B (KE_F KE_V) KE_I) (KC_B (KE_F KE_V) KE_I)) (KC_B (KE_F KE_V) KE_I))))
theorem knX12_isName : KM Wn mX12_isName := KM_q kn_sX12_isName
theorem kn_cX12_isNamed_1 : KC Wn cX12_isNamed_1 := (KC_B KE_V (KE_A (KE_F KE_V) KE_V))
theorem kn_bX12_isNamed_1 : KS Wn bX12_isNamed_1 := (KS_If (KC_B (KE_A (KE_F KE_V) (KE_2 (KE_A (KE_F KE_V) KE_V) KE_V)) (KE_A (KE_F KE_V) (KE_2 (KE_F KE_V) KE_V))) (KS_Ret KE_I) KS_Skip)
theorem kn_uX12_isNamed_1 : KS Wn uX12_isNamed_1 := KS_Inc
theorem kn_sX12_isNamed : KS Wn sX12_isNamed := (KS_Seq (KS_If (KC_B (KE_A (KE_F KE_V) KE_V) (KE_2 (KE_F KE_V) (KE_F KE_V))) (KS_Ret KE_I) KS_Skip) (KS_Seq (KS_Seq (KS_Set KE_I) (KS_While kn_cX12_isNamed_1 kn_bX12_isNamed_1 kn_uX12_isNamed_1)) (KS_Ret KE_I)))
theorem knX12_isNamed : KM Wn mX12_isNamed := KM_q kn_sX12_isNamed
theorem kn_cX12_nameHere_1 : KC Wn cX12_nameHere_1 := (KC_B KE_V (KE_F KE_V))
theorem kn_bX12_nameHere_1 : KS Wn bX12_nameHere_1 := (KS_If (KC_E (KE_CV knX12_isNamed (KA_1 KE_V (KA_1 KE_V KA_0)))) (KS_Ret (KE_A (KE_F KE_V) KE_V)) KS_Skip)
theorem kn_uX12_nameHere_1 : KS Wn uX12_nameHere_1 := KS_Inc
theorem kn_sX12_nameHere : KS Wn sX12_nameHere := (KS_Seq (KS_Seq (KS_Set KE_I) (KS_While kn_cX12_nameHere_1 kn_bX12_nameHere_1 kn_uX12_nameHere_1)) (KS_Ret KE_I))
theorem knX12_nameHere : KM Wn mX12_nameHere := KM_q kn_sX12_nameHere
theorem kn_sX12_newName : KS Wn sX12_newName := (KS_Seq (KS_If (KC_Not (KC_E (KE_CV knX12_isName (KA_1 KE_V KA_0)))) (KS_Do (KE_CV knX12_fail (KA_1 KE_V (KA_1 KE_I KA_0)))) (KS_If (KC_B (KE_CV knX12_nameHere (KA_1 KE_V KA_0)) KE_I) (KS_Do (KE_CV knX12_fail (KA_1 KE_V (KA_1 KE_I KA_0)))) KS_Skip)) (KS_Seq (KS_If (KC_B (KE_F KE_V) KE_I) KS_RetV KS_Skip) (KS_Seq (KS_Arr (fun _ => rfl) (KE_F KE_V) (KE_F KE_V) (KE_F KE_V)) (KS_Seq (KS_Arr (fun _ => rfl) (KE_F KE_V) (KE_F KE_V) (KE_2 (KE_F KE_V) (KE_F KE_V))) (KS_Seq (KS_Arr (fun _ => rfl) (KE_F KE_V) (KE_F KE_V) KE_V) (KS_Seq (KS_PutC rfl KE_V KE_I) (KS_Seq (KS_Do (KE_CV knX12_scan (KA_1 KE_V KA_0))) KS_RetV)))))))
theorem knX12_newName : KM Wn mX12_newName := KM_q kn_sX12_newName
theorem kn_sX12_readArchive : KS Wn sX12_readArchive := (KS_Seq (KS_If (KC_B (KE_A (KE_F KE_V) KE_V) KE_I) (KS_Do (KE_CV knX12_fail (KA_1 KE_V (KA_1 KE_I KA_0)))) KS_Skip) (KS_Seq (KS_If (KC_B (KE_F KE_V) KE_I) KS_RetV KS_Skip) (KS_Seq (KS_Do (KE_CV knX12_scan (KA_1 KE_V KA_0))) (KS_Seq (KS_Set (KE_C knX12_own (KA_1 KE_V (KA_1 (KE_A (KE_F KE_V) KE_V) KA_0)))) (KS_Seq (KS_Arr (fun _ => rfl) (KE_F KE_V) KE_V (KE_If (KC_E (KE_CV knX12_isWord (KA_1 KE_V (KA_1 KE_I KA_0)))) KE_I (KE_If (KC_E (KE_CV knX12_isWord (KA_1 KE_V (KA_1 KE_I KA_0)))) KE_I (KE_If (KC_E (KE_CV knX12_isWord (KA_1 KE_V (KA_1 KE_I KA_0)))) KE_I KE_I)))) (KS_Seq (KS_If (KC_And (KC_B (KE_A (KE_F KE_V) KE_V) KE_I) (KC_Not (KC_E (KE_CV knX12_isWord (KA_1 KE_V (KA_1 KE_I KA_0)))))) (KS_Do (KE_CV knX12_fail (KA_1 KE_V (KA_1 KE_I KA_0)))) KS_Skip) (KS_Seq (KS_If (KC_B (KE_F KE_V) KE_I) KS_RetV KS_Skip) (KS_Seq (KS_Do (KE_CV knX12_scan (KA_1 KE_V KA_0))) (KS_Seq (KS_Arr (fun _ => rfl) (KE_F KE_V) KE_V (KE_CV knX12_numeral (KA_1 KE_V (KA_1 KE_I (KA_1 KE_I KA_0))))) (KS_Seq (KS_Do (KE_CV knX12_needWord (KA_1 KE_V (KA_1 KE_I KA_0)))) (KS_Seq (KS_Arr (fun _ => rfl) (KE_F KE_V) KE_V (KE_CV knX12_numeral (KA_1 KE_V (KA_1 KE_I (KA_1 KE_I KA_0))))) (KS_Seq (KS_Do (KE_CV knX12_needWord (KA_1 KE_V (KA_1 KE_I KA_0)))) (KS_Seq (KS_Arr (fun _ => rfl) (KE_F KE_V) KE_V (KE_CV knX12_numeral (KA_1 KE_V (KA_1 KE_I (KA_1 KE_I KA_0))))) (KS_Seq (KS_ArrC (fun _ => rfl) (KE_F KE_V) KE_V KE_I) KS_RetV))))))))))))))
theorem knX12_readArchive : KM Wn mX12_readArchive := KM_q kn_sX12_readArchive
theorem kn_sX12_readForecast : KS Wn sX12_readForecast := (KS_Seq (KS_Do (KE_CV knX12_scan (KA_1 KE_V KA_0))) (KS_Seq (KS_Set (KE_If (KC_E (KE_CV knX12_isName (KA_1 KE_V KA_0))) (KE_CV knX12_nameHere (KA_1 KE_V KA_0)) KE_I)) (KS_Seq (KS_If (KC_Not (KC_E (KE_CV knX12_isName (KA_1 KE_V KA_0)))) (KS_Do (KE_CV knX12_fail (KA_1 KE_V (KA_1 KE_I KA_0)))) (KS_If (KC_Or (KC_Not (KC_E (KE_C knX12_isIn (KA_1 KE_V (KA_1 KE_I (KA_1 KE_I KA_0)))))) (KC_E (KE_A (KE_F KE_V) (KE_C knX12_own (KA_1 KE_V (KA_1 KE_V KA_0)))))) (KS_Do (KE_CV knX12_fail (KA_1 KE_V (KA_1 KE_I KA_0)))) KS_Skip)) (KS_Seq (KS_If (KC_B (KE_F KE_V) KE_I) KS_RetV KS_Skip) (KS_Seq (KS_Set (KE_C knX12_own (KA_1 KE_V (KA_1 KE_V KA_0)))) (KS_Seq (KS_Arr (fun _ => rfl) (KE_F KE_V) KE_V KE_I) (KS_Seq (KS_Do (KE_CV knX12_scan (KA_1 KE_V KA_0))) (KS_Seq (KS_Do (KE_CV knX12_needWord (KA_1 KE_V (KA_1 KE_I KA_0)))) (KS_Seq (KS_Arr (fun _ => rfl) (KE_F KE_V) KE_V (KE_CV knX12_numeral (KA_1 KE_V (KA_1 KE_I (KA_1 KE_I KA_0))))) (KS_Seq (KS_Do (KE_CV knX12_needWord (KA_1 KE_V (KA_1 KE_I KA_0)))) (KS_Seq (KS_Arr (fun _ => rfl) (KE_F KE_V) KE_V (KE_CV knX12_numeral (KA_1 KE_V (KA_1 KE_I (KA_1 KE_I KA_0))))) (KS_Seq (KS_Arr (fun _ => rfl) (KE_F KE_V) KE_V (KE_CV knX12_numeral (KA_1 KE_V (KA_1 KE_I (KA_1 KE_I KA_0))))) (KS_Seq (KS_Arr (fun _ => rfl) (KE_F KE_V) KE_V (KE_CV knX12_numeral (KA_1 KE_V (KA_1 KE_I (KA_1 KE_I KA_0))))) (KS_Seq (KS_Do (KE_CV knX12_needWord (KA_1 KE_V (KA_1 KE_I KA_0)))) (KS_Seq (KS_Arr (fun _ => rfl) (KE_F KE_V) KE_V (KE_CV knX12_numeral (KA_1 KE_V (KA_1 KE_I (KA_1 KE_I KA_0))))) KS_RetV)))))))))))))))
theorem knX12_readForecast : KM Wn mX12_readForecast := KM_q kn_sX12_readForecast
theorem kn_sX12_readMeasure : KS Wn sX12_readMeasure := (KS_Seq (KS_If (KC_B (KE_A (KE_F KE_V) KE_V) KE_I) (KS_Do (KE_CV knX12_fail (KA_1 KE_V (KA_1 KE_I KA_0)))) KS_Skip) (KS_Seq (KS_If (KC_B (KE_F KE_V) KE_I) KS_RetV KS_Skip) (KS_Seq (KS_Do (KE_CV knX12_scan (KA_1 KE_V KA_0))) (KS_Seq (KS_Set (KE_C knX12_own (KA_1 KE_V (KA_1 (KE_A (KE_F KE_V) KE_V) KA_0)))) (KS_Seq (KS_Set (KE_A (KE_F KE_V) KE_V)) (KS_Seq (KS_Set (KE_F KE_V)) (KS_Seq (KS_Do (KE_CV knX12_newName (KA_1 KE_V (KA_1 KE_V KA_0)))) (KS_Seq (KS_If (KC_B (KE_F KE_V) KE_I) KS_RetV KS_Skip) (KS_Seq (KS_Arr (fun _ => rfl) (KE_F KE_V) KE_V (KE_If (KC_E (KE_CV knX12_isWord (KA_1 KE_V (KA_1 KE_I KA_0)))) KE_I (KE_If (KC_E (KE_CV knX12_isWord (KA_1 KE_V (KA_1 KE_I KA_0)))) KE_I KE_I))) (KS_Seq (KS_If (KC_And (KC_B (KE_A (KE_F KE_V) KE_V) KE_I) (KC_Not (KC_E (KE_CV knX12_isWord (KA_1 KE_V (KA_1 KE_I KA_0)))))) (KS_Do (KE_CV knX12_fail (KA_1 KE_V (KA_1 KE_I KA_0)))) KS_Skip) (KS_Seq (KS_If (KC_B (KE_F KE_V) KE_I) KS_RetV KS_Skip) (KS_Seq (KS_Do (KE_CV knX12_scan (KA_1 KE_V KA_0))) (KS_Seq (KS_If (KC_B (KE_A (KE_F KE_V) KE_V) KE_I) (KS_Seq (KS_Arr (fun _ => rfl) (KE_F KE_V) KE_V (KE_CV knX12_numeral (KA_1 KE_V (KA_1 KE_I (KA_1 KE_I KA_0))))) (KS_Arr (fun _ => rfl) (KE_F KE_V) KE_V (KE_CV knX12_numeral (KA_1 KE_V (KA_1 (KE_2 (KE_A (KE_F KE_V) KE_V) KE_I) (KA_1 KE_I KA_0)))))) KS_Skip) (KS_Seq (KS_Do (KE_CV knX12_needWord (KA_1 KE_V (KA_1 KE_I KA_0)))) (KS_Seq (KS_Arr (fun _ => rfl) (KE_F KE_V) KE_V (KE_CV knX12_numeral (KA_1 KE_V (KA_1 KE_I (KA_1 KE_I KA_0))))) (KS_Seq (KS_Arr (fun _ => rfl) (KE_F KE_V) KE_V KE_I) (KS_Seq (KS_Arr (fun _ => rfl) (KE_F KE_V) KE_V KE_I) (KS_Seq (KS_If (KC_E (KE_CV knX12_isWord (KA_1 KE_V (KA_1 KE_I KA_0)))) (KS_Seq (KS_Do (KE_CV knX12_scan (KA_1 KE_V KA_0))) (KS_Arr (fun _ => rfl) (KE_F KE_V) KE_V (KE_CV knX12_numeral (KA_1 KE_V (KA_1 KE_I (KA_1 KE_I KA_0)))))) KS_Skip) (KS_Seq (KS_If (KC_E (KE_CV knX12_isWord (KA_1 KE_V (KA_1 KE_I KA_0)))) (KS_Seq (KS_Do (KE_CV knX12_scan (KA_1 KE_V KA_0))) (KS_Arr (fun _ => rfl) (KE_F KE_V) KE_V (KE_CV knX12_numeral (KA_1 KE_V (KA_1 (KE_A (KE_F KE_V) KE_V) (KA_1 KE_I KA_0)))))) KS_Skip) (KS_Seq (KS_If (KC_And (KC_B (KE_F KE_V) KE_I) (KC_B (KE_F KE_V) KE_V)) (KS_ArrC (fun _ => rfl) (KE_F KE_V) KE_V KE_I) KS_Skip) KS_RetV))))))))))))))))))))
theorem knX12_readMeasure : KM Wn mX12_readMeasure := KM_q kn_sX12_readMeasure
theorem kn_sX12_between : KS Wn sX12_between := (KS_Ret (KE_If (KC_E (KE_CV knX12_isWord (KA_1 KE_V (KA_1 KE_I KA_0)))) KE_I (KE_If (KC_E (KE_CV knX12_isAt (KA_1 KE_V (KA_1 KE_I KA_0)))) KE_I (KE_If (KC_E (KE_CV knX12_isAt (KA_1 KE_V (KA_1 KE_I KA_0)))) KE_I (KE_If (KC_E (KE_CV knX12_isAt (KA_1 KE_V (KA_1 KE_I KA_0)))) KE_I (KE_If (KC_E (KE_CV knX12_isAt (KA_1 KE_V (KA_1 KE_I KA_0)))) KE_I KE_I))))))
theorem knX12_between : KM Wn mX12_between := KM_q kn_sX12_between
theorem kn_sX12_lay : KS Wn sX12_lay := (KS_Seq (KS_Arr (fun _ => rfl) (KE_F KE_V) (KE_2 (KE_2 KE_I KE_V) (KE_A (KE_F KE_V) KE_V)) KE_V) (KS_Seq (KS_ArrC (fun _ => rfl) (KE_F KE_V) KE_V KE_I) KS_RetV))
theorem knX12_lay : KM Wn mX12_lay := KM_q kn_sX12_lay
theorem kn_sX12_layWaiting : KS Wn sX12_layWaiting := (KS_Seq (KS_PutC rfl KE_V KE_I) (KS_Seq (KS_Do (KE_CV knX12_lay (KA_1 KE_V (KA_1 KE_V (KA_1 (KE_A (KE_F KE_V) (KE_F KE_V)) KA_0))))) KS_RetV))
theorem knX12_layWaiting : KM Wn mX12_layWaiting := KM_q kn_sX12_layWaiting
theorem kn_sX12_bindsBy : KS Wn sX12_bindsBy := (KS_Ret (KE_If (KC_B KE_V KE_I) KE_I (KE_If (KC_B KE_V KE_I) KE_I (KE_If (KC_Or (KC_B KE_V KE_I) (KC_B KE_V KE_I)) KE_I KE_I))))
theorem knX12_bindsBy : KM Wn mX12_bindsBy := KM_q kn_sX12_bindsBy
theorem kn_cX12_push_1 : KC Wn cX12_push_1 := (KC_And (KC_And (KC_B (KE_F KE_V) KE_I) (KC_B KE_V KE_I)) (KC_B (KE_C knX12_bindsBy (KA_1 (KE_A (KE_F KE_V) (KE_2 (KE_F KE_V) KE_I)) KA_0)) (KE_C knX12_bindsBy (KA_1 KE_V KA_0))))
theorem kn_bX12_push_1 : KS Wn bX12_push_1 := (KS_Do (KE_CV knX12_layWaiting (KA_1 KE_V (KA_1 KE_V KA_0))))
theorem kn_uX12_push_1 : KS Wn uX12_push_1 := KS_Skip
theorem kn_sX12_push : KS Wn sX12_push := (KS_Seq (KS_While kn_cX12_push_1 kn_bX12_push_1 kn_uX12_push_1) (KS_Seq (KS_Arr (fun _ => rfl) (KE_F KE_V) (KE_F KE_V) KE_V) (KS_Seq (KS_PutC rfl KE_V KE_I) KS_RetV)))
theorem knX12_push : KM Wn mX12_push := KM_q kn_sX12_push
theorem kn_sX12_readUnit : KS Wn sX12_readUnit := (KS_Seq (KS_Set (KE_CV knX12_isAt (KA_1 KE_V (KA_1 KE_I KA_0)))) (KS_Seq (KS_If (KC_And (KC_And (KC_Not (KC_E KE_V)) (KC_Not (KC_E (KE_CV knX12_isName (KA_1 KE_V KA_0))))) (KC_B (KE_F KE_V) KE_I)) (KS_Do (KE_CV knX12_fail (KA_1 KE_V (KA_1 KE_I KA_0)))) (KS_If (KC_And (KC_B (KE_F KE_V) KE_I) (KC_B (KE_F KE_V) KE_I)) (KS_Do (KE_CV knX12_fail (KA_1 KE_V (KA_1 KE_I KA_0)))) (KS_If (KC_And (KC_E (KE_CV knX12_isName (KA_1 KE_V KA_0))) (KC_B (KE_CV knX12_nameHere (KA_1 KE_V KA_0)) KE_I)) (KS_Do (KE_CV knX12_fail (KA_1 KE_V (KA_1 KE_I KA_0)))) (KS_If (KC_Or (KC_B (KE_A (KE_F KE_V) KE_V) KE_I) (KC_B (KE_F KE_V) KE_I)) (KS_Do (KE_CV knX12_fail (KA_1 KE_V (KA_1 KE_I KA_0)))) KS_Skip)))) (KS_Seq (KS_If (KC_B (KE_F KE_V) KE_I) (KS_Ret KE_I) KS_Skip) (KS_Seq (KS_ArrC (fun _ => rfl) (KE_F KE_V) KE_V KE_I) (KS_Seq (KS_If (KC_E KE_V) (KS_Seq (KS_Do (KE_CV knX12_push (KA_1 KE_V (KA_1 KE_V (KA_1 KE_I KA_0))))) (KS_PutC rfl KE_V KE_I)) (KS_Do (KE_CV knX12_lay (KA_1 KE_V (KA_1 KE_V (KA_1 (KE_If (KC_B (KE_F KE_V) KE_I) (KE_F KE_V) (KE_If (KC_B (KE_CV knX12_nameHere (KA_1 KE_V KA_0)) KE_I) (KE_2 KE_I (KE_CV knX12_nameHere (KA_1 KE_V KA_0))) (KE_2 (KE_2 KE_I (KE_CV knX12_nameHere (KA_1 KE_V KA_0))) KE_I))) KA_0)))))) (KS_Seq (KS_Do (KE_CV knX12_scan (KA_1 KE_V KA_0))) (KS_Ret KE_V)))))))
theorem knX12_readUnit : KM Wn mX12_readUnit := KM_q kn_sX12_readUnit
theorem kn_cX12_readUnits_2 : KC Wn cX12_readUnits_2 := (KC_B (KE_A (KE_F KE_V) (KE_2 (KE_F KE_V) KE_I)) KE_I)
theorem kn_bX12_readUnits_2 : KS Wn bX12_readUnits_2 := (KS_Do (KE_CV knX12_layWaiting (KA_1 KE_V (KA_1 KE_V KA_0))))
theorem kn_uX12_readUnits_2 : KS Wn uX12_readUnits_2 := KS_Skip
theorem kn_cX12_readUnits_1 : KC Wn cX12_readUnits_1 := (KC_And (KC_B (KE_F KE_V) KE_I) (KC_E KE_V))
theorem kn_bX12_readUnits_1 : KS Wn bX12_readUnits_1 := (KS_If (KC_E KE_V) (KS_Set (KE_CV knX12_readUnit (KA_1 KE_V (KA_1 KE_V KA_0)))) (KS_If (KC_And (KC_E (KE_CV knX12_isAt (KA_1 KE_V (KA_1 KE_I KA_0)))) (KC_B (KE_F KE_V) KE_I)) (KS_Seq (KS_While kn_cX12_readUnits_2 kn_bX12_readUnits_2 kn_uX12_readUnits_2) (KS_Seq (KS_PutC rfl KE_V KE_I) (KS_Seq (KS_PutC rfl KE_V KE_I) (KS_Do (KE_CV knX12_scan (KA_1 KE_V KA_0)))))) (KS_If (KC_B (KE_CV knX12_between (KA_1 KE_V KA_0)) KE_I) (KS_Seq (KS_Do (KE_CV knX12_push (KA_1 KE_V (KA_1 KE_V (KA_1 (KE_CV knX12_between (KA_1 KE_V KA_0)) KA_0))))) (KS_Seq (KS_Do (KE_CV knX12_scan (KA_1 KE_V KA_0))) (KS_Set KE_I))) (KS_Set KE_I))))
theorem kn_uX12_readUnits_1 : KS Wn uX12_readUnits_1 := KS_Skip
theorem kn_cX12_readUnits_3 : KC Wn cX12_readUnits_3 := (KC_And (KC_B (KE_F KE_V) KE_I) (KC_B (KE_F KE_V) KE_I))
theorem kn_bX12_readUnits_3 : KS Wn bX12_readUnits_3 := (KS_Do (KE_CV knX12_layWaiting (KA_1 KE_V (KA_1 KE_V KA_0))))
theorem kn_uX12_readUnits_3 : KS Wn uX12_readUnits_3 := KS_Skip
theorem kn_sX12_readUnits : KS Wn sX12_readUnits := (KS_Seq (KS_Put rfl KE_V KE_I) (KS_Seq (KS_Put rfl KE_V KE_I) (KS_Seq (KS_Set KE_I) (KS_Seq (KS_Set KE_I) (KS_Seq (KS_While kn_cX12_readUnits_1 kn_bX12_readUnits_1 kn_uX12_readUnits_1) (KS_Seq (KS_If (KC_And (KC_B (KE_F KE_V) KE_I) (KC_B (KE_F KE_V) KE_I)) (KS_Do (KE_CV knX12_fail (KA_1 KE_V (KA_1 KE_I KA_0)))) KS_Skip) (KS_Seq (KS_While kn_cX12_readUnits_3 kn_bX12_readUnits_3 kn_uX12_readUnits_3) KS_RetV)))))))
theorem knX12_readUnits : KM Wn mX12_readUnits := KM_q kn_sX12_readUnits
theorem kn_sX12_readShow : KS Wn sX12_readShow := (KS_Seq (KS_If (KC_B (KE_A (KE_F KE_V) KE_V) KE_I) (KS_Do (KE_CV knX12_fail (KA_1 KE_V (KA_1 KE_I KA_0)))) KS_Skip) (KS_Seq (KS_If (KC_B (KE_F KE_V) KE_I) KS_RetV KS_Skip) (KS_Seq (KS_Do (KE_CV knX12_scan (KA_1 KE_V KA_0))) (KS_Seq (KS_If (KC_Not (KC_E (KE_CV knX12_isName (KA_1 KE_V KA_0)))) (KS_Do (KE_CV knX12_fail (KA_1 KE_V (KA_1 KE_I KA_0)))) (KS_If (KC_B (KE_CV knX12_nameHere (KA_1 KE_V KA_0)) KE_I) (KS_Do (KE_CV knX12_fail (KA_1 KE_V (KA_1 KE_I KA_0)))) KS_Skip)) (KS_Seq (KS_If (KC_B (KE_F KE_V) KE_I) KS_RetV KS_Skip) (KS_Seq (KS_Set (KE_F KE_V)) (KS_Seq (KS_Set (KE_2 (KE_F KE_V) (KE_F KE_V))) (KS_Seq (KS_Do (KE_CV knX12_scan (KA_1 KE_V KA_0))) (KS_Seq (KS_Do (KE_CV knX12_need (KA_1 KE_V (KA_1 KE_I KA_0)))) (KS_Seq (KS_Do (KE_CV knX12_readUnits (KA_1 KE_V (KA_1 KE_V KA_0)))) (KS_Seq (KS_Arr (fun _ => rfl) (KE_F KE_V) (KE_C knX12_own (KA_1 KE_V (KA_1 (KE_A (KE_F KE_V) KE_V) KA_0))) (KE_A (KE_F KE_V) KE_V)) (KS_Seq (KS_Arr (fun _ => rfl) (KE_F KE_V) (KE_F KE_V) KE_V) (KS_Seq (KS_Arr (fun _ => rfl) (KE_F KE_V) (KE_F KE_V) KE_V) (KS_Seq (KS_Arr (fun _ => rfl) (KE_F KE_V) (KE_F KE_V) (KE_2 KE_I (KE_A (KE_F KE_V) KE_V))) (KS_Seq (KS_If (KC_B (KE_F KE_V) KE_I) KS_RetV KS_Skip) (KS_Seq (KS_PutC rfl KE_V KE_I) (KS_Seq (KS_ArrC (fun _ => rfl) (KE_F KE_V) KE_V KE_I) KS_RetV)))))))))))))))))
theorem knX12_readShow : KM Wn mX12_readShow := KM_q kn_sX12_readShow
theorem kn_sX12_readLine : KS Wn sX12_readLine := (KS_Seq (KS_If (KC_E (KE_CV knX12_isWord (KA_1 KE_V (KA_1 KE_I KA_0)))) (KS_Do (KE_CV knX12_readMeasure (KA_1 KE_V (KA_1 KE_V KA_0)))) (KS_If (KC_E (KE_CV knX12_isWord (KA_1 KE_V (KA_1 KE_I KA_0)))) (KS_Do (KE_CV knX12_readArchive (KA_1 KE_V (KA_1 KE_V KA_0)))) (KS_If (KC_E (KE_CV knX12_isWord (KA_1 KE_V (KA_1 KE_I KA_0)))) (KS_Do (KE_CV knX12_readForecast (KA_1 KE_V (KA_1 KE_V KA_0)))) (KS_If (KC_E (KE_CV knX12_isWord (KA_1 KE_V (KA_1 KE_I KA_0)))) (KS_Do (KE_CV knX12_readShow (KA_1 KE_V (KA_1 KE_V KA_0)))) (KS_Do (KE_CV knX12_fail (KA_1 KE_V (KA_1 KE_I KA_0)))))))) KS_RetV)
theorem knX12_readLine : KM Wn mX12_readLine := KM_q kn_sX12_readLine
theorem kn_cX12_readAll_1 : KC Wn cX12_readAll_1 := (KC_And (KC_B (KE_F KE_V) KE_I) (KC_B (KE_F KE_V) KE_I))
theorem kn_bX12_readAll_1 : KS Wn bX12_readAll_1 := (KS_Seq (KS_Do (KE_CV knX12_readLine (KA_1 KE_V (KA_1 KE_V KA_0)))) (KS_Do (KE_CV knX12_need (KA_1 KE_V (KA_1 KE_I KA_0)))))
theorem kn_uX12_readAll_1 : KS Wn uX12_readAll_1 := KS_Skip
theorem kn_sX12_readAll : KS Wn sX12_readAll := (KS_Seq (KS_Do (KE_CV knX12_scan (KA_1 KE_V KA_0))) (KS_Seq (KS_If (KC_B (KE_F KE_V) KE_I) KS_RetV KS_Skip) (KS_Seq (KS_Do (KE_CV knX12_needWord (KA_1 KE_V (KA_1 KE_I KA_0)))) (KS_Seq (KS_Arr (fun _ => rfl) (KE_F KE_V) KE_V (KE_CV knX12_numeral (KA_1 KE_V (KA_1 KE_I (KA_1 KE_I KA_0))))) (KS_Seq (KS_Do (KE_CV knX12_need (KA_1 KE_V (KA_1 KE_I KA_0)))) (KS_Seq (KS_While kn_cX12_readAll_1 kn_bX12_readAll_1 kn_uX12_readAll_1) KS_RetV))))))
theorem knX12_readAll : KM Wn mX12_readAll := KM_q kn_sX12_readAll
theorem kn_sX12_many : KS Wn sX12_many := (KS_Ret (KE_A (KE_F KE_V) (KE_F KE_V)))
theorem knX12_many : KM Wn mX12_many := KM_q kn_sX12_many
theorem kn_sX12_atMeasure : KS Wn sX12_atMeasure := (KS_Ret (KE_2 (KE_2 KE_I (KE_2 KE_I KE_V)) KE_V))
theorem knX12_atMeasure : KM Wn mX12_atMeasure := KM_q kn_sX12_atMeasure
theorem kn_cX12_startAnew_1 : KC Wn cX12_startAnew_1 := (KC_B KE_V KE_I)
theorem kn_bX12_startAnew_1 : KS Wn bX12_startAnew_1 := (KS_Arr (fun _ => rfl) (KE_F KE_V) KE_V KE_I)
theorem kn_uX12_startAnew_1 : KS Wn uX12_startAnew_1 := KS_Inc
theorem kn_cX12_startAnew_2 : KC Wn cX12_startAnew_2 := (KC_B KE_V (KE_CV knX12_many (KA_1 KE_V KA_0)))
theorem kn_bX12_startAnew_2 : KS Wn bX12_startAnew_2 := (KS_Seq (KS_Set (KE_C knX12_own (KA_1 (KE_F KE_V) (KA_1 KE_V KA_0)))) (KS_Seq (KS_Arr (fun _ => rfl) (KE_F KE_V) (KE_C knX12_atMeasure (KA_1 KE_V (KA_1 KE_I KA_0))) (KE_A (KE_F KE_V) KE_V)) (KS_Seq (KS_Arr (fun _ => rfl) (KE_F KE_V) (KE_C knX12_atMeasure (KA_1 KE_V (KA_1 KE_I KA_0))) (KE_A (KE_F KE_V) KE_V)) (KS_Seq (KS_Arr (fun _ => rfl) (KE_F KE_V) (KE_C knX12_atMeasure (KA_1 KE_V (KA_1 KE_I KA_0))) (KE_A (KE_F KE_V) KE_V)) (KS_Seq (KS_Arr (fun _ => rfl) (KE_F KE_V) (KE_C knX12_atMeasure (KA_1 KE_V (KA_1 KE_I KA_0))) KE_I) (KS_Seq (KS_Arr (fun _ => rfl) (KE_F KE_V) (KE_C knX12_atMeasure (KA_1 KE_V (KA_1 KE_I KA_0))) KE_I) (KS_Seq (KS_Arr (fun _ => rfl) (KE_F KE_V) (KE_C knX12_atMeasure (KA_1 KE_V (KA_1 KE_I KA_0))) KE_I) (KS_Seq (KS_Arr (fun _ => rfl) (KE_F KE_V) (KE_C knX12_atMeasure (KA_1 KE_V (KA_1 KE_I KA_0))) KE_I) (KS_Arr (fun _ => rfl) (KE_F KE_V) (KE_C knX12_atMeasure (KA_1 KE_V (KA_1 KE_I KA_0))) KE_I)))))))))
theorem kn_uX12_startAnew_2 : KS Wn uX12_startAnew_2 := KS_Inc
theorem kn_cX12_startAnew_3 : KC Wn cX12_startAnew_3 := (KC_B KE_V KE_I)
theorem kn_bX12_startAnew_3 : KS Wn bX12_startAnew_3 := (KS_Arr (fun _ => rfl) (KE_F KE_V) KE_V KE_I)
theorem kn_uX12_startAnew_3 : KS Wn uX12_startAnew_3 := KS_Inc
theorem kn_sX12_startAnew : KS Wn sX12_startAnew := (KS_Seq (KS_Seq (KS_Set KE_I) (KS_While kn_cX12_startAnew_1 kn_bX12_startAnew_1 kn_uX12_startAnew_1)) (KS_Seq (KS_Seq (KS_Set KE_I) (KS_While kn_cX12_startAnew_2 kn_bX12_startAnew_2 kn_uX12_startAnew_2)) (KS_Seq (KS_Put rfl KE_V KE_I) (KS_Seq (KS_Put rfl KE_V KE_I) (KS_Seq (KS_Seq (KS_Set KE_I) (KS_While kn_cX12_startAnew_3 kn_bX12_startAnew_3 kn_uX12_startAnew_3)) KS_RetV)))))
theorem knX12_startAnew : KM Wn mX12_startAnew := KM_q kn_sX12_startAnew
theorem kn_sX12_store : KS Wn sX12_store := (KS_Seq (KS_Set (KE_2 KE_I (KE_F KE_V))) (KS_Seq (KS_Put rfl KE_V (KE_F KE_V)) (KS_Seq (KS_Put rfl KE_V KE_I) (KS_Seq (KS_Put rfl KE_V KE_I) (KS_Seq (KS_Put rfl KE_V KE_I) (KS_Seq (KS_Put rfl KE_V KE_I) (KS_Seq (KS_Put rfl KE_V KE_I) (KS_Seq (KS_Do (KE_CV knX12_clearBank (KA_1 KE_V (KA_1 KE_V KA_0)))) (KS_Seq (KS_Do (KE_CV knX12_readAll (KA_1 KE_V (KA_1 KE_V KA_0)))) (KS_Seq (KS_Put rfl KE_V (KE_F KE_V)) (KS_Seq (KS_Put rfl KE_V (KE_F KE_V)) (KS_Seq (KS_If (KC_B (KE_F KE_V) KE_I) (KS_Ret KE_I) KS_Skip) (KS_Seq (KS_Put rfl KE_V KE_V) (KS_Seq (KS_Do (KE_CV knX12_startAnew (KA_1 KE_V KA_0))) (KS_Ret (KE_CV knX12_many (KA_1 KE_V KA_0)))))))))))))))))
theorem knX12_store : KM Wn mX12_store := KM_q kn_sX12_store
theorem kn_sX12_fault : KS Wn sX12_fault := (KS_Ret (KE_If (KC_B KE_V KE_I) (KE_F KE_V) (KE_If (KC_B KE_V KE_I) (KE_F KE_V) KE_I)))
theorem knX12_fault : KM Wn mX12_fault := KM_q kn_sX12_fault
theorem kn_sX12_archivesNow : KS Wn sX12_archivesNow := (KS_Ret (KE_A (KE_F KE_V) (KE_F KE_V)))
theorem knX12_archivesNow : KM Wn mX12_archivesNow := KM_q kn_sX12_archivesNow
theorem kn_sX12_isMeasure : KS Wn sX12_isMeasure := (KS_Ret (KE_C knX12_isIn (KA_1 KE_V (KA_1 KE_I (KA_1 (KE_2 (KE_CV knX12_many (KA_1 KE_V KA_0)) KE_I) KA_0)))))
theorem knX12_isMeasure : KM Wn mX12_isMeasure := KM_q kn_sX12_isMeasure
theorem kn_sX12_isArchive : KS Wn sX12_isArchive := (KS_Ret (KE_C knX12_isIn (KA_1 KE_V (KA_1 KE_I (KA_1 (KE_2 (KE_CV knX12_archivesNow (KA_1 KE_V KA_0)) KE_I) KA_0)))))
theorem knX12_isArchive : KM Wn mX12_isArchive := KM_q kn_sX12_isArchive
theorem kn_sX12_isBoth : KS Wn sX12_isBoth := (KS_Ret (KE_B (KC_And (KC_E (KE_CV knX12_isArchive (KA_1 KE_V (KA_1 KE_V KA_0)))) (KC_E (KE_CV knX12_isMeasure (KA_1 KE_V (KA_1 KE_V KA_0)))))))
theorem knX12_isBoth : KM Wn mX12_isBoth := KM_q kn_sX12_isBoth
theorem kn_sX12_isFollowed : KS Wn sX12_isFollowed := (KS_Ret (KE_B (KC_And (KC_E (KE_CV knX12_isMeasure (KA_1 KE_V (KA_1 KE_V KA_0)))) (KC_E (KE_A (KE_F KE_V) (KE_C knX12_own (KA_1 (KE_F KE_V) (KA_1 KE_V KA_0))))))))
theorem knX12_isFollowed : KM Wn mX12_isFollowed := KM_q kn_sX12_isFollowed
theorem kn_sX12_atGather : KS Wn sX12_atGather := (KS_Ret (KE_2 (KE_2 KE_I (KE_2 KE_I (KE_2 (KE_2 KE_I KE_V) KE_V))) KE_V))
theorem knX12_atGather : KM Wn mX12_atGather := KM_q kn_sX12_atGather
theorem kn_sX12_atRow : KS Wn sX12_atRow := (KS_Ret (KE_2 (KE_2 KE_I (KE_2 KE_I (KE_2 (KE_2 KE_I KE_V) KE_V))) KE_V))
theorem knX12_atRow : KM Wn mX12_atRow := KM_q kn_sX12_atRow
theorem kn_sX12_atForecast : KS Wn sX12_atForecast := (KS_Ret (KE_2 (KE_2 KE_I (KE_2 KE_I KE_V)) KE_V))
theorem knX12_atForecast : KM Wn mX12_atForecast := KM_q kn_sX12_atForecast
theorem kn_sX12_width : KS Wn sX12_width := (KS_Ret (KE_2 KE_I KE_V))
theorem knX12_width : KM Wn mX12_width := KM_q kn_sX12_width
theorem kn_sX12_isNumber : KS Wn sX12_isNumber := (KS_Seq (KS_Set (KE_C knX12_own (KA_1 (KE_F KE_V) (KA_1 KE_V KA_0)))) (KS_Ret (KE_B (KC_And (KC_E (KE_C knX12_isIn (KA_1 KE_V (KA_1 KE_I (KA_1 KE_I KA_0))))) (KC_Or (KC_B (KE_A (KE_F KE_V) KE_V) KE_I) (KC_B KE_V (KE_C knX12_width (KA_1 (KE_A (KE_F KE_V) KE_V) KA_0))))))))
theorem knX12_isNumber : KM Wn mX12_isNumber := KM_q kn_sX12_isNumber
theorem kn_sX12_wentOn : KS Wn sX12_wentOn := (KS_Seq (KS_If (KC_B KE_V KE_V) (KS_Ret (KE_2 KE_V KE_V)) KS_Skip) (KS_Seq (KS_Set (KE_2 (KE_2 KE_V KE_V) (KE_C knX12_width (KA_1 KE_V KA_0)))) (KS_Ret (KE_If (KC_B KE_V KE_I) KE_V (KE_2 (KE_2 KE_V KE_V) (KE_C knX12_width (KA_1 KE_V KA_0)))))))
theorem knX12_wentOn : KM Wn mX12_wentOn := KM_q kn_sX12_wentOn
theorem kn_sX12_rateOf : KS Wn sX12_rateOf := (KS_Seq (KS_Set (KE_C knX12_own (KA_1 (KE_F KE_V) (KA_1 KE_V KA_0)))) (KS_Seq (KS_Set (KE_A (KE_F KE_V) (KE_C knX12_atMeasure (KA_1 KE_V (KA_1 KE_I KA_0))))) (KS_Seq (KS_If (KC_Or (KC_Or (KC_B KE_V (KE_A (KE_F KE_V) (KE_C knX12_atMeasure (KA_1 KE_V (KA_1 KE_I KA_0))))) (KC_Not (KC_E (KE_CV knX12_isNumber (KA_1 KE_V (KA_1 KE_V (KA_1 KE_V KA_0))))))) (KC_And (KC_B (KE_A (KE_F KE_V) KE_V) KE_I) (KC_B KE_V KE_I))) (KS_Ret KE_I) KS_Skip) (KS_Seq (KS_Set (KE_2 KE_I KE_V)) (KS_Seq (KS_If (KC_B (KE_A (KE_F KE_V) KE_V) KE_I) (KS_Set (KE_D (KE_2 KE_I KE_V) KE_V)) KS_Skip) (KS_Seq (KS_If (KC_B (KE_A (KE_F KE_V) KE_V) KE_I) (KS_Set (KE_D (KE_2 KE_I (KE_C knX12_wentOn (KA_1 KE_V (KA_1 KE_V (KA_1 (KE_A (KE_F KE_V) KE_V) (KA_1 (KE_A (KE_F KE_V) KE_V) KA_0)))))) KE_V)) KS_Skip) (KS_Ret (KE_If (KC_E (KE_C knX12_isIn (KA_1 KE_V (KA_1 (KE_2 KE_I (KE_A (KE_F KE_V) (KE_C knX12_atMeasure (KA_1 KE_V (KA_1 KE_I KA_0))))) (KA_1 (KE_2 KE_I (KE_A (KE_F KE_V) (KE_C knX12_atMeasure (KA_1 KE_V (KA_1 KE_I KA_0))))) KA_0))))) KE_V KE_I))))))))
theorem knX12_rateOf : KM Wn mX12_rateOf := KM_q kn_sX12_rateOf
theorem kn_sX12_canRead : KS Wn sX12_canRead := (KS_Ret (KE_B (KC_And (KC_E (KE_C knX12_isIn (KA_1 KE_V (KA_1 KE_I (KA_1 KE_I KA_0))))) (KC_B (KE_2 (KE_A (KE_F KE_V) KE_I) KE_V) KE_I))))
theorem knX12_canRead : KM Wn mX12_canRead := KM_q kn_sX12_canRead
theorem kn_sX12_gatheredBy : KS Wn sX12_gatheredBy := (KS_Seq (KS_Set (KE_C knX12_own (KA_1 (KE_F KE_V) (KA_1 KE_V KA_0)))) (KS_Seq (KS_If (KC_Or (KC_B (KE_A (KE_F KE_V) (KE_C knX12_atGather (KA_1 KE_V (KA_1 KE_V (KA_1 KE_I KA_0))))) KE_I) (KC_B (KE_2 KE_I (KE_A (KE_F KE_V) (KE_C knX12_atGather (KA_1 KE_V (KA_1 KE_V (KA_1 KE_I KA_0)))))) (KE_2 (KE_A (KE_F KE_V) KE_V) (KE_A (KE_F KE_V) KE_V)))) (KS_Ret KE_I) KS_Skip) (KS_Sw (KE_A (KE_F KE_V) KE_V) (KF_1 (KS_Ret (KE_D (KE_A (KE_F KE_V) (KE_C knX12_atGather (KA_1 KE_V (KA_1 KE_V (KA_1 KE_I KA_0))))) (KE_A (KE_F KE_V) (KE_C knX12_atGather (KA_1 KE_V (KA_1 KE_V (KA_1 KE_I KA_0))))))) (KF_1 (KS_Ret (KE_A (KE_F KE_V) (KE_C knX12_atGather (KA_1 KE_V (KA_1 KE_V (KA_1 KE_I KA_0)))))) (KF_1 (KS_Ret (KE_A (KE_F KE_V) (KE_C knX12_atGather (KA_1 KE_V (KA_1 KE_V (KA_1 KE_I KA_0)))))) (KF_0 (KS_Ret (KE_A (KE_F KE_V) (KE_C knX12_atGather (KA_1 KE_V (KA_1 KE_V (KA_1 KE_I KA_0)))))))))))))
theorem knX12_gatheredBy : KM Wn mX12_gatheredBy := KM_q kn_sX12_gatheredBy
theorem kn_sX12_rowsKept : KS Wn sX12_rowsKept := (KS_Ret (KE_1 (KE_A (KE_F KE_V) (KE_2 KE_I KE_V))))
theorem knX12_rowsKept : KM Wn mX12_rowsKept := KM_q kn_sX12_rowsKept
theorem kn_cX12_closeRow_2 : KC Wn cX12_closeRow_2 := (KC_B KE_V KE_I)
theorem kn_bX12_closeRow_2 : KS Wn bX12_closeRow_2 := (KS_Arr (fun _ => rfl) (KE_F KE_V) (KE_C knX12_atRow (KA_1 KE_V (KA_1 KE_V (KA_1 KE_V KA_0)))) (KE_A (KE_F KE_V) (KE_C knX12_atRow (KA_1 KE_V (KA_1 KE_V (KA_1 (KE_2 KE_V KE_I) KA_0))))))
theorem kn_uX12_closeRow_2 : KS Wn uX12_closeRow_2 := KS_Inc
theorem kn_cX12_closeRow_3 : KC Wn cX12_closeRow_3 := (KC_B KE_V KE_I)
theorem kn_bX12_closeRow_3 : KS Wn bX12_closeRow_3 := (KS_Arr (fun _ => rfl) (KE_F KE_V) (KE_C knX12_atGather (KA_1 KE_V (KA_1 KE_V (KA_1 KE_V KA_0)))) KE_I)
theorem kn_uX12_closeRow_3 : KS Wn uX12_closeRow_3 := KS_Inc
theorem kn_cX12_closeRow_1 : KC Wn cX12_closeRow_1 := (KC_B KE_V (KE_CV knX12_many (KA_1 KE_V KA_0)))
theorem kn_bX12_closeRow_1 : KS Wn bX12_closeRow_1 := (KS_Seq (KS_Seq (KS_Set KE_I) (KS_While kn_cX12_closeRow_2 kn_bX12_closeRow_2 kn_uX12_closeRow_2)) (KS_Seq (KS_Arr (fun _ => rfl) (KE_F KE_V) (KE_C knX12_atRow (KA_1 KE_V (KA_1 KE_V (KA_1 KE_I KA_0)))) (KE_CV knX12_gatheredBy (KA_1 KE_V (KA_1 KE_V (KA_1 KE_V KA_0))))) (KS_Seq (KS_Set KE_I) (KS_While kn_cX12_closeRow_3 kn_bX12_closeRow_3 kn_uX12_closeRow_3))))
theorem kn_uX12_closeRow_1 : KS Wn uX12_closeRow_1 := KS_Inc
theorem kn_sX12_closeRow : KS Wn sX12_closeRow := (KS_Seq (KS_If (KC_B (KE_CV knX12_rowsKept (KA_1 KE_V (KA_1 KE_V KA_0))) (KE_A (KE_F KE_V) (KE_C knX12_own (KA_1 (KE_F KE_V) (KA_1 KE_V KA_0))))) (KS_ArrC (fun _ => rfl) (KE_F KE_V) (KE_2 KE_I KE_V) KE_I) KS_Skip) (KS_Seq (KS_Seq (KS_Set KE_I) (KS_While kn_cX12_closeRow_1 kn_bX12_closeRow_1 kn_uX12_closeRow_1)) KS_RetV))
theorem knX12_closeRow : KM Wn mX12_closeRow := KM_q kn_sX12_closeRow
theorem kn_cX12_keepTold_1 : KC Wn cX12_keepTold_1 := (KC_B KE_V KE_I)
theorem kn_bX12_keepTold_1 : KS Wn bX12_keepTold_1 := (KS_Seq (KS_Arr (fun _ => rfl) (KE_F KE_V) (KE_C knX12_atForecast (KA_1 KE_V (KA_1 (KE_2 KE_I KE_V) KA_0))) (KE_A (KE_F KE_V) (KE_C knX12_atForecast (KA_1 KE_V (KA_1 (KE_2 (KE_2 KE_I KE_V) KE_I) KA_0))))) (KS_Arr (fun _ => rfl) (KE_F KE_V) (KE_C knX12_atForecast (KA_1 KE_V (KA_1 (KE_2 KE_I KE_V) KA_0))) (KE_A (KE_F KE_V) (KE_C knX12_atForecast (KA_1 KE_V (KA_1 (KE_2 (KE_2 KE_I KE_V) KE_I) KA_0))))))
theorem kn_uX12_keepTold_1 : KS Wn uX12_keepTold_1 := KS_Inc
theorem kn_sX12_keepTold : KS Wn sX12_keepTold := (KS_Seq (KS_Seq (KS_Set KE_I) (KS_While kn_cX12_keepTold_1 kn_bX12_keepTold_1 kn_uX12_keepTold_1)) (KS_Seq (KS_Arr (fun _ => rfl) (KE_F KE_V) (KE_C knX12_atForecast (KA_1 KE_V (KA_1 KE_I KA_0))) KE_V) (KS_Seq (KS_Arr (fun _ => rfl) (KE_F KE_V) (KE_C knX12_atForecast (KA_1 KE_V (KA_1 KE_I KA_0))) (KE_If (KC_E KE_V) KE_I KE_I)) (KS_Seq (KS_If (KC_B (KE_A (KE_F KE_V) (KE_C knX12_atForecast (KA_1 KE_V (KA_1 KE_I KA_0)))) KE_I) (KS_ArrC (fun _ => rfl) (KE_F KE_V) (KE_C knX12_atForecast (KA_1 KE_V (KA_1 KE_I KA_0))) KE_I) KS_Skip) KS_RetV))))
theorem knX12_keepTold : KM Wn mX12_keepTold := KM_q kn_sX12_keepTold
theorem kn_sX12_mixed : KS Wn sX12_mixed := (KS_Ret (KE_C knX12_held (KA_1 (KE_D (KE_2 (KE_2 KE_V KE_V) (KE_2 (KE_2 KE_I KE_V) KE_V)) KE_I) KA_0)))
theorem knX12_mixed : KM Wn mX12_mixed := KM_q kn_sX12_mixed
theorem kn_sX12_learn : KS Wn sX12_learn := (KS_Seq (KS_Set (KE_C knX12_own (KA_1 (KE_F KE_V) (KA_1 KE_V KA_0)))) (KS_Seq (KS_Set (KE_A (KE_F KE_V) (KE_C knX12_atForecast (KA_1 KE_V (KA_1 KE_I KA_0))))) (KS_Seq (KS_Set (KE_A (KE_F KE_V) (KE_C knX12_atForecast (KA_1 KE_V (KA_1 KE_I KA_0))))) (KS_Seq (KS_Set (KE_A (KE_F KE_V) (KE_C knX12_atForecast (KA_1 KE_V (KA_1 (KE_2 KE_I KE_V) KA_0))))) (KS_Seq (KS_Set (KE_C knX12_mixed (KA_1 (KE_A (KE_F KE_V) KE_V) (KA_1 (KE_2 KE_V KE_V) (KA_1 (KE_2 KE_V KE_V) KA_0))))) (KS_Seq (KS_Arr (fun _ => rfl) (KE_F KE_V) (KE_C knX12_atForecast (KA_1 KE_V (KA_1 KE_I KA_0))) KE_V) (KS_Seq (KS_Arr (fun _ => rfl) (KE_F KE_V) (KE_C knX12_atForecast (KA_1 KE_V (KA_1 KE_I KA_0))) (KE_C knX12_mixed (KA_1 (KE_A (KE_F KE_V) KE_V) (KA_1 (KE_2 KE_V KE_V) (KA_1 KE_V KA_0))))) (KS_Seq (KS_Arr (fun _ => rfl) (KE_F KE_V) (KE_C knX12_atForecast (KA_1 KE_V (KA_1 (KE_2 KE_I KE_V) KA_0))) (KE_C knX12_mixed (KA_1 (KE_A (KE_F KE_V) KE_V) (KA_1 (KE_2 KE_V KE_V) (KA_1 KE_V KA_0))))) (KS_Seq (KS_Arr (fun _ => rfl) (KE_F KE_V) (KE_C knX12_atForecast (KA_1 KE_V (KA_1 (KE_2 KE_I KE_V) KA_0))) (KE_C knX12_mixed (KA_1 (KE_A (KE_F KE_V) KE_V) (KA_1 KE_V (KA_1 (KE_A (KE_F KE_V) (KE_C knX12_atForecast (KA_1 KE_V (KA_1 (KE_2 KE_I KE_V) KA_0)))) KA_0))))) KS_RetV)))))))))
theorem knX12_learn : KM Wn mX12_learn := KM_q kn_sX12_learn
theorem kn_sX12_placeNow : KS Wn sX12_placeNow := (KS_Ret (KE_1 (KE_D (KE_2 (KE_A (KE_F KE_V) KE_I) KE_V) (KE_A (KE_F KE_V) (KE_C knX12_own (KA_1 (KE_F KE_V) (KA_1 KE_V KA_0)))))))
theorem knX12_placeNow : KM Wn mX12_placeNow := KM_q kn_sX12_placeNow
theorem kn_sX12_tells : KS Wn sX12_tells := (KS_Ret (KE_C knX12_held (KA_1 (KE_2 (KE_2 (KE_A (KE_F KE_V) (KE_C knX12_atForecast (KA_1 KE_V (KA_1 KE_I KA_0)))) (KE_A (KE_F KE_V) (KE_C knX12_atForecast (KA_1 KE_V (KA_1 KE_I KA_0))))) (KE_A (KE_F KE_V) (KE_C knX12_atForecast (KA_1 KE_V (KA_1 (KE_2 KE_I KE_V) KA_0))))) KA_0)))
theorem knX12_tells : KM Wn mX12_tells := KM_q kn_sX12_tells
theorem kn_sX12_follow : KS Wn sX12_follow := (KS_Seq (KS_If (KC_B (KE_A (KE_F KE_V) (KE_C knX12_atForecast (KA_1 KE_V (KA_1 KE_I KA_0)))) KE_I) (KS_Seq (KS_If (KC_B KE_V KE_I) KS_RetV KS_Skip) (KS_Seq (KS_Arr (fun _ => rfl) (KE_F KE_V) (KE_C knX12_atForecast (KA_1 KE_V (KA_1 KE_I KA_0))) KE_I) (KS_Seq (KS_Arr (fun _ => rfl) (KE_F KE_V) (KE_C knX12_atForecast (KA_1 KE_V (KA_1 KE_I KA_0))) (KE_C knX12_held (KA_1 KE_V KA_0))) KS_RetV))) KS_Skip) (KS_Seq (KS_Set (KE_CV knX12_placeNow (KA_1 KE_V (KA_1 KE_V (KA_1 KE_I KA_0))))) (KS_Seq (KS_Set (KE_CV knX12_tells (KA_1 KE_V (KA_1 KE_V (KA_1 KE_V KA_0))))) (KS_Seq (KS_Set (KE_If (KC_B KE_V KE_V) (KE_2 KE_V KE_V) (KE_2 KE_V KE_V))) (KS_Seq (KS_Set (KE_A (KE_F KE_V) (KE_C knX12_atForecast (KA_1 KE_V (KA_1 (KE_2 KE_I KE_V) KA_0))))) (KS_Seq (KS_Do (KE_CV knX12_keepTold (KA_1 KE_V (KA_1 KE_V (KA_1 KE_V (KA_1 (KE_B (KC_And (KC_And (KC_B KE_V KE_I) (KC_B KE_V KE_I)) (KC_B KE_V (KE_2 (KE_A (KE_F KE_V) (KE_C knX12_own (KA_1 (KE_F KE_V) (KA_1 KE_V KA_0)))) KE_V)))) KA_0)))))) (KS_Seq (KS_If (KC_B KE_V KE_I) (KS_Arr (fun _ => rfl) (KE_F KE_V) (KE_C knX12_atForecast (KA_1 KE_V (KA_1 KE_I KA_0))) (KE_C knX12_held (KA_1 (KE_2 (KE_A (KE_F KE_V) (KE_C knX12_atForecast (KA_1 KE_V (KA_1 KE_I KA_0)))) (KE_A (KE_F KE_V) (KE_C knX12_atForecast (KA_1 KE_V (KA_1 KE_I KA_0))))) KA_0))) (KS_Do (KE_CV knX12_learn (KA_1 KE_V (KA_1 KE_V (KA_1 KE_V (KA_1 KE_V (KA_1 KE_V KA_0)))))))) KS_RetV)))))))
theorem knX12_follow : KM Wn mX12_follow := KM_q kn_sX12_follow
theorem kn_sX12_gather : KS Wn sX12_gather := (KS_Seq (KS_If (KC_B KE_V KE_I) (KS_Seq (KS_ArrC (fun _ => rfl) (KE_F KE_V) (KE_C knX12_atGather (KA_1 KE_V (KA_1 KE_V (KA_1 KE_I KA_0)))) KE_I) KS_RetV) KS_Skip) (KS_Seq (KS_Set (KE_B (KC_B (KE_A (KE_F KE_V) (KE_C knX12_atGather (KA_1 KE_V (KA_1 KE_V (KA_1 KE_I KA_0))))) KE_I))) (KS_Seq (KS_ArrC (fun _ => rfl) (KE_F KE_V) (KE_C knX12_atGather (KA_1 KE_V (KA_1 KE_V (KA_1 KE_I KA_0)))) (KE_2 KE_V KE_V)) (KS_Seq (KS_ArrC (fun _ => rfl) (KE_F KE_V) (KE_C knX12_atGather (KA_1 KE_V (KA_1 KE_V (KA_1 KE_I KA_0)))) KE_V) (KS_Seq (KS_If (KC_Or (KC_E KE_V) (KC_B KE_V (KE_A (KE_F KE_V) (KE_C knX12_atGather (KA_1 KE_V (KA_1 KE_V (KA_1 KE_I KA_0))))))) (KS_Arr (fun _ => rfl) (KE_F KE_V) (KE_C knX12_atGather (KA_1 KE_V (KA_1 KE_V (KA_1 KE_I KA_0)))) KE_V) KS_Skip) (KS_Seq (KS_If (KC_Or (KC_E KE_V) (KC_B KE_V (KE_A (KE_F KE_V) (KE_C knX12_atGather (KA_1 KE_V (KA_1 KE_V (KA_1 KE_I KA_0))))))) (KS_Arr (fun _ => rfl) (KE_F KE_V) (KE_C knX12_atGather (KA_1 KE_V (KA_1 KE_V (KA_1 KE_I KA_0)))) KE_V) KS_Skip) (KS_Seq (KS_Arr (fun _ => rfl) (KE_F KE_V) (KE_C knX12_atGather (KA_1 KE_V (KA_1 KE_V (KA_1 KE_I KA_0)))) KE_V) (KS_Seq (KS_ArrC (fun _ => rfl) (KE_F KE_V) (KE_C knX12_atGather (KA_1 KE_V (KA_1 KE_V (KA_1 KE_I KA_0)))) KE_I) KS_RetV))))))))
theorem knX12_gather : KM Wn mX12_gather := KM_q kn_sX12_gather
theorem kn_sX12_reach : KS Wn sX12_reach := (KS_Seq (KS_If (KC_Or (KC_B (KE_A (KE_F KE_V) (KE_C knX12_atMeasure (KA_1 KE_V (KA_1 KE_I KA_0)))) KE_I) (KC_B KE_V (KE_A (KE_F KE_V) (KE_C knX12_atMeasure (KA_1 KE_V (KA_1 KE_I KA_0)))))) (KS_Arr (fun _ => rfl) (KE_F KE_V) (KE_C knX12_atMeasure (KA_1 KE_V (KA_1 KE_I KA_0))) KE_V) KS_Skip) (KS_Seq (KS_If (KC_Or (KC_B (KE_A (KE_F KE_V) (KE_C knX12_atMeasure (KA_1 KE_V (KA_1 KE_I KA_0)))) KE_I) (KC_B KE_V (KE_A (KE_F KE_V) (KE_C knX12_atMeasure (KA_1 KE_V (KA_1 KE_I KA_0)))))) (KS_Arr (fun _ => rfl) (KE_F KE_V) (KE_C knX12_atMeasure (KA_1 KE_V (KA_1 KE_I KA_0))) KE_V) KS_Skip) KS_RetV))
theorem knX12_reach : KM Wn mX12_reach := KM_q kn_sX12_reach
theorem kn_cX12_closeStep_2 : KC Wn cX12_closeStep_2 := (KC_B KE_V (KE_CV knX12_archivesNow (KA_1 KE_V KA_0)))
theorem kn_bX12_closeStep_2 : KS Wn bX12_closeStep_2 := (KS_Do (KE_CV knX12_gather (KA_1 KE_V (KA_1 KE_V (KA_1 KE_V (KA_1 KE_V (KA_1 KE_V KA_0)))))))
theorem kn_uX12_closeStep_2 : KS Wn uX12_closeStep_2 := KS_Inc
theorem kn_cX12_closeStep_1 : KC Wn cX12_closeStep_1 := (KC_B KE_V (KE_CV knX12_many (KA_1 KE_V KA_0)))
theorem kn_bX12_closeStep_1 : KS Wn bX12_closeStep_1 := (KS_Seq (KS_Set (KE_A (KE_F KE_V) (KE_C knX12_atMeasure (KA_1 KE_V (KA_1 KE_I KA_0))))) (KS_Seq (KS_Set (KE_B (KC_B (KE_2 KE_I (KE_2 (KE_A (KE_F KE_V) (KE_F KE_V)) KE_V)) (KE_A (KE_F KE_V) (KE_F KE_V))))) (KS_Seq (KS_Set (KE_If (KC_E KE_V) (KE_D (KE_A (KE_F KE_V) (KE_C knX12_atMeasure (KA_1 KE_V (KA_1 KE_I KA_0)))) KE_V) KE_I)) (KS_Seq (KS_Arr (fun _ => rfl) (KE_F KE_V) (KE_C knX12_atMeasure (KA_1 KE_V (KA_1 KE_I KA_0))) KE_V) (KS_Seq (KS_Arr (fun _ => rfl) (KE_F KE_V) (KE_C knX12_atMeasure (KA_1 KE_V (KA_1 KE_I KA_0))) KE_V) (KS_Seq (KS_Arr (fun _ => rfl) (KE_F KE_V) (KE_C knX12_atMeasure (KA_1 KE_V (KA_1 KE_I KA_0))) KE_I) (KS_Seq (KS_Arr (fun _ => rfl) (KE_F KE_V) (KE_C knX12_atMeasure (KA_1 KE_V (KA_1 KE_I KA_0))) KE_I) (KS_Seq (KS_If (KC_E KE_V) (KS_Do (KE_CV knX12_reach (KA_1 KE_V (KA_1 KE_V (KA_1 KE_V KA_0))))) KS_Skip) (KS_Seq (KS_Seq (KS_Set KE_I) (KS_While kn_cX12_closeStep_2 kn_bX12_closeStep_2 kn_uX12_closeStep_2)) (KS_If (KC_E (KE_CV knX12_isFollowed (KA_1 KE_V (KA_1 KE_V KA_0)))) (KS_Do (KE_CV knX12_follow (KA_1 KE_V (KA_1 KE_V (KA_1 KE_V KA_0))))) KS_Skip))))))))))
theorem kn_uX12_closeStep_1 : KS Wn uX12_closeStep_1 := KS_Inc
theorem kn_cX12_closeStep_3 : KC Wn cX12_closeStep_3 := (KC_B KE_V (KE_CV knX12_archivesNow (KA_1 KE_V KA_0)))
theorem kn_bX12_closeStep_3 : KS Wn bX12_closeStep_3 := (KS_If (KC_B (KE_D (KE_A (KE_F KE_V) KE_I) (KE_A (KE_F KE_V) (KE_C knX12_own (KA_1 (KE_F KE_V) (KA_1 KE_V KA_0))))) KE_I) (KS_Do (KE_CV knX12_closeRow (KA_1 KE_V (KA_1 KE_V KA_0)))) KS_Skip)
theorem kn_uX12_closeStep_3 : KS Wn uX12_closeStep_3 := KS_Inc
theorem kn_sX12_closeStep : KS Wn sX12_closeStep := (KS_Seq (KS_Seq (KS_Set KE_I) (KS_While kn_cX12_closeStep_1 kn_bX12_closeStep_1 kn_uX12_closeStep_1)) (KS_Seq (KS_ArrC (fun _ => rfl) (KE_F KE_V) KE_I KE_I) (KS_Seq (KS_Seq (KS_Set KE_I) (KS_While kn_cX12_closeStep_3 kn_bX12_closeStep_3 kn_uX12_closeStep_3)) KS_RetV)))
theorem knX12_closeStep : KM Wn mX12_closeStep := KM_q kn_sX12_closeStep
theorem kn_cX12_goRead_1 : KC Wn cX12_goRead_1 := (KC_B KE_V (KE_CV knX12_many (KA_1 KE_V KA_0)))
theorem kn_bX12_goRead_1 : KS Wn bX12_goRead_1 := (KS_Seq (KS_Arr (fun _ => rfl) (KE_F KE_V) (KE_C knX12_atMeasure (KA_1 KE_V (KA_1 KE_I KA_0))) (KE_CV knX12_rateOf (KA_1 KE_V (KA_1 KE_V (KA_1 (KE_A (KE_F KE_V) KE_V) (KA_1 KE_V KA_0)))))) (KS_If (KC_B (KE_A (KE_F KE_V) (KE_C knX12_own (KA_1 (KE_F KE_V) (KA_1 KE_V KA_0)))) KE_I) (KS_Arr (fun _ => rfl) (KE_F KE_V) (KE_C knX12_atMeasure (KA_1 KE_V (KA_1 KE_I KA_0))) (KE_If (KC_E (KE_CV knX12_isNumber (KA_1 KE_V (KA_1 KE_V (KA_1 (KE_A (KE_F KE_V) KE_V) KA_0))))) (KE_A (KE_F KE_V) KE_V) KE_I)) KS_Skip))
theorem kn_uX12_goRead_1 : KS Wn uX12_goRead_1 := KS_Inc
theorem kn_cX12_goRead_3 : KC Wn cX12_goRead_3 := (KC_B KE_V (KE_CV knX12_many (KA_1 KE_V KA_0)))
theorem kn_bX12_goRead_3 : KS Wn bX12_goRead_3 := (KS_Seq (KS_If (KC_B (KE_A (KE_F KE_V) (KE_C knX12_atMeasure (KA_1 KE_V (KA_1 KE_I KA_0)))) KE_I) KS_Cnt KS_Skip) (KS_Seq (KS_ArrC (fun _ => rfl) (KE_F KE_V) (KE_C knX12_atMeasure (KA_1 KE_V (KA_1 KE_I KA_0))) (KE_A (KE_F KE_V) (KE_C knX12_atMeasure (KA_1 KE_V (KA_1 KE_I KA_0))))) (KS_ArrC (fun _ => rfl) (KE_F KE_V) (KE_C knX12_atMeasure (KA_1 KE_V (KA_1 KE_I KA_0))) KE_I)))
theorem kn_uX12_goRead_3 : KS Wn uX12_goRead_3 := KS_Inc
theorem kn_cX12_goRead_2 : KC Wn cX12_goRead_2 := (KC_B KE_V KE_V)
theorem kn_bX12_goRead_2 : KS Wn bX12_goRead_2 := (KS_Seq (KS_ArrC (fun _ => rfl) (KE_F KE_V) KE_I KE_I) (KS_Seq (KS_Seq (KS_Set KE_I) (KS_While kn_cX12_goRead_3 kn_bX12_goRead_3 kn_uX12_goRead_3)) (KS_Seq (KS_If (KC_B (KE_D (KE_A (KE_F KE_V) KE_I) (KE_A (KE_F KE_V) (KE_F KE_V))) KE_I) KS_Cnt KS_Skip) (KS_Seq (KS_Do (KE_CV knX12_closeStep (KA_1 KE_V KA_0))) KS_Inc))))
theorem kn_uX12_goRead_2 : KS Wn uX12_goRead_2 := KS_Inc
theorem kn_sX12_goRead : KS Wn sX12_goRead := (KS_Seq (KS_ArrC (fun _ => rfl) (KE_F KE_V) KE_I KE_I) (KS_Seq (KS_Seq (KS_Set KE_I) (KS_While kn_cX12_goRead_1 kn_bX12_goRead_1 kn_uX12_goRead_1)) (KS_Seq (KS_Set KE_I) (KS_Seq (KS_Seq (KS_Set KE_I) (KS_While kn_cX12_goRead_2 kn_bX12_goRead_2 kn_uX12_goRead_2)) (KS_Ret KE_V)))))
theorem knX12_goRead : KM Wn mX12_goRead := KM_q kn_sX12_goRead
theorem kn_sX12_give : KS Wn sX12_give := (KS_Seq (KS_Arr (fun _ => rfl) (KE_F KE_V) KE_I KE_V) (KS_Seq (KS_Arr (fun _ => rfl) (KE_F KE_V) KE_I KE_V) (KS_Seq (KS_Arr (fun _ => rfl) (KE_F KE_V) KE_I KE_V) (KS_Seq (KS_Arr (fun _ => rfl) (KE_F KE_V) KE_I KE_V) KS_RetV))))
theorem knX12_give : KM Wn mX12_give := KM_q kn_sX12_give
theorem kn_cX12_keepAct_1 : KC Wn cX12_keepAct_1 := (KC_B KE_V KE_I)
theorem kn_bX12_keepAct_1 : KS Wn bX12_keepAct_1 := (KS_Arr (fun _ => rfl) (KE_F KE_V) KE_V (KE_A (KE_F KE_V) (KE_2 KE_V KE_I)))
theorem kn_uX12_keepAct_1 : KS Wn uX12_keepAct_1 := KS_Inc
theorem kn_cX12_keepAct_2 : KC Wn cX12_keepAct_2 := (KC_B KE_V KE_I)
theorem kn_bX12_keepAct_2 : KS Wn bX12_keepAct_2 := (KS_Arr (fun _ => rfl) (KE_F KE_V) (KE_2 (KE_2 KE_I (KE_F KE_V)) KE_V) (KE_A (KE_F KE_V) KE_V))
theorem kn_uX12_keepAct_2 : KS Wn uX12_keepAct_2 := KS_Inc
theorem kn_sX12_keepAct : KS Wn sX12_keepAct := (KS_Seq (KS_If (KC_B (KE_F KE_V) KE_I) (KS_Seq (KS_Seq (KS_Set KE_I) (KS_While kn_cX12_keepAct_1 kn_bX12_keepAct_1 kn_uX12_keepAct_1)) (KS_PutC rfl KE_V KE_I)) KS_Skip) (KS_Seq (KS_Seq (KS_Set KE_I) (KS_While kn_cX12_keepAct_2 kn_bX12_keepAct_2 kn_uX12_keepAct_2)) (KS_Seq (KS_PutC rfl KE_V KE_I) (KS_Seq (KS_Put rfl KE_V KE_I) KS_RetV))))
theorem knX12_keepAct : KM Wn mX12_keepAct := KM_q kn_sX12_keepAct
theorem kn_sX12_read : KS Wn sX12_read := (KS_Seq (KS_If (KC_Not (KC_E (KE_CV knX12_canRead (KA_1 KE_V (KA_1 KE_V KA_0))))) (KS_Ret KE_I) KS_Skip) (KS_Seq (KS_Do (KE_CV knX12_keepAct (KA_1 KE_V KA_0))) (KS_Seq (KS_Do (KE_CV knX12_give (KA_1 KE_V (KA_1 KE_V (KA_1 KE_V (KA_1 KE_V (KA_1 KE_V KA_0))))))) (KS_Ret (KE_CV knX12_goRead (KA_1 KE_V (KA_1 KE_V KA_0)))))))
theorem knX12_read : KM Wn mX12_read := KM_q kn_sX12_read
theorem kn_sX12_canTurn : KS Wn sX12_canTurn := (KS_Seq (KS_If (KC_Or (KC_Not (KC_E (KE_CV knX12_isMeasure (KA_1 KE_V (KA_1 KE_V KA_0))))) (KC_Not (KC_E (KE_C knX12_isIn (KA_1 KE_V (KA_1 KE_I (KA_1 KE_I KA_0))))))) (KS_Ret KE_I) KS_Skip) (KS_Seq (KS_If (KC_B KE_V KE_I) (KS_Ret (KE_C knX12_isIn (KA_1 KE_V (KA_1 KE_I (KA_1 KE_I KA_0))))) KS_Skip) (KS_Ret (KE_If (KC_B KE_V KE_I) (KE_C knX12_isIn (KA_1 KE_V (KA_1 KE_I (KA_1 (KE_A (KE_F KE_V) (KE_C knX12_atMeasure (KA_1 KE_V (KA_1 KE_I KA_0)))) KA_0)))) (KE_C knX12_isIn (KA_1 KE_V (KA_1 (KE_A (KE_F KE_V) (KE_C knX12_atMeasure (KA_1 KE_V (KA_1 KE_I KA_0)))) (KA_1 KE_I KA_0))))))))
theorem knX12_canTurn : KM Wn mX12_canTurn := KM_q kn_sX12_canTurn
theorem kn_sX12_turn : KS Wn sX12_turn := (KS_Seq (KS_If (KC_Not (KC_E (KE_CV knX12_canTurn (KA_1 KE_V (KA_1 KE_V (KA_1 KE_V (KA_1 KE_V KA_0))))))) (KS_Ret KE_I) KS_Skip) (KS_Seq (KS_Do (KE_CV knX12_keepAct (KA_1 KE_V KA_0))) (KS_Seq (KS_Set (KE_1 (KE_A (KE_F KE_V) (KE_C knX12_atMeasure (KA_1 KE_V (KA_1 KE_V KA_0)))))) (KS_Seq (KS_Arr (fun _ => rfl) (KE_F KE_V) (KE_C knX12_atMeasure (KA_1 KE_V (KA_1 KE_V KA_0))) KE_V) (KS_Ret KE_V)))))
theorem knX12_turn : KM Wn mX12_turn := KM_q kn_sX12_turn
theorem kn_sX12_measure : KS Wn sX12_measure := (KS_Seq (KS_If (KC_Not (KC_E (KE_CV knX12_isMeasure (KA_1 KE_V (KA_1 KE_V KA_0))))) (KS_Ret KE_I) KS_Skip) (KS_Sw KE_V (KF_1 (KS_Ret (KE_1 (KE_A (KE_F KE_V) (KE_C knX12_atMeasure (KA_1 KE_V (KA_1 KE_V KA_0)))))) (KF_1 (KS_Ret (KE_A (KE_F KE_V) (KE_C knX12_own (KA_1 (KE_F KE_V) (KA_1 KE_V KA_0))))) (KF_1 (KS_Ret (KE_1 (KE_A (KE_F KE_V) (KE_C knX12_atMeasure (KA_1 KE_V (KA_1 KE_I KA_0)))))) (KF_1 (KS_Ret (KE_1 (KE_A (KE_F KE_V) (KE_C knX12_atMeasure (KA_1 KE_V (KA_1 KE_I KA_0)))))) (KF_0 (KS_Ret KE_I))))))))
theorem knX12_measure : KM Wn mX12_measure := KM_q kn_sX12_measure
theorem kn_sX12_rate : KS Wn sX12_rate := (KS_Ret (KE_If (KC_E (KE_CV knX12_isMeasure (KA_1 KE_V (KA_1 KE_V KA_0)))) (KE_1 (KE_A (KE_F KE_V) (KE_C knX12_atMeasure (KA_1 KE_V (KA_1 KE_I KA_0))))) KE_I))
theorem knX12_rate : KM Wn mX12_rate := KM_q kn_sX12_rate
theorem kn_sX12_value : KS Wn sX12_value := (KS_Ret (KE_If (KC_E (KE_CV knX12_isMeasure (KA_1 KE_V (KA_1 KE_V KA_0)))) (KE_1 (KE_A (KE_F KE_V) (KE_C knX12_atMeasure (KA_1 KE_V (KA_1 KE_I KA_0))))) KE_I))
theorem knX12_value : KM Wn mX12_value := KM_q kn_sX12_value
theorem kn_sX12_unitsOf : KS Wn sX12_unitsOf := (KS_Ret (KE_2 (KE_A (KE_F KE_V) (KE_C knX12_own (KA_1 (KE_F KE_V) (KA_1 KE_V KA_0)))) (KE_A (KE_F KE_V) (KE_F KE_V))))
theorem knX12_unitsOf : KM Wn mX12_unitsOf := KM_q kn_sX12_unitsOf
theorem kn_sX12_overAt : KS Wn sX12_overAt := (KS_Ret (KE_2 (KE_1 (KE_D (KE_A (KE_F KE_V) KE_I) (KE_A (KE_F KE_V) (KE_C knX12_own (KA_1 (KE_F KE_V) (KA_1 KE_V KA_0)))))) (KE_CV knX12_unitsOf (KA_1 KE_V (KA_1 KE_V KA_0)))))
theorem knX12_overAt : KM Wn mX12_overAt := KM_q kn_sX12_overAt
theorem kn_sX12_archive : KS Wn sX12_archive := (KS_Seq (KS_If (KC_Not (KC_E (KE_CV knX12_isArchive (KA_1 KE_V (KA_1 KE_V KA_0))))) (KS_Ret KE_I) KS_Skip) (KS_Seq (KS_Set (KE_C knX12_own (KA_1 (KE_F KE_V) (KA_1 KE_V KA_0)))) (KS_Sw KE_V (KF_1 (KS_Ret (KE_A (KE_F KE_V) KE_V)) (KF_1 (KS_Ret (KE_A (KE_F KE_V) KE_V)) (KF_1 (KS_Ret (KE_A (KE_F KE_V) KE_V)) (KF_1 (KS_Ret (KE_A (KE_F KE_V) KE_V)) (KF_1 (KS_Ret (KE_CV knX12_rowsKept (KA_1 KE_V (KA_1 KE_V KA_0)))) (KF_1 (KS_Ret (KE_If (KC_B (KE_CV knX12_rowsKept (KA_1 KE_V (KA_1 KE_V KA_0))) KE_I) KE_I (KE_CV knX12_overAt (KA_1 KE_V (KA_1 KE_V KA_0))))) (KF_1 (KS_Ret (KE_1 (KE_D (KE_A (KE_F KE_V) KE_I) (KE_A (KE_F KE_V) KE_V)))) (KF_0 (KS_Ret KE_I))))))))))))
theorem knX12_archive : KM Wn mX12_archive := KM_q kn_sX12_archive
theorem kn_sX12_isRow : KS Wn sX12_isRow := (KS_Ret (KE_B (KC_And (KC_E (KE_CV knX12_isBoth (KA_1 KE_V (KA_1 KE_V (KA_1 KE_V KA_0))))) (KC_E (KE_C knX12_isIn (KA_1 KE_V (KA_1 KE_I (KA_1 (KE_2 (KE_CV knX12_rowsKept (KA_1 KE_V (KA_1 KE_V KA_0))) KE_I) KA_0))))))))
theorem knX12_isRow : KM Wn mX12_isRow := KM_q kn_sX12_isRow
theorem kn_sX12_row : KS Wn sX12_row := (KS_Ret (KE_If (KC_E (KE_CV knX12_isRow (KA_1 KE_V (KA_1 KE_V (KA_1 KE_V (KA_1 KE_V KA_0)))))) (KE_1 (KE_A (KE_F KE_V) (KE_C knX12_atRow (KA_1 KE_V (KA_1 KE_V (KA_1 KE_V KA_0)))))) KE_I))
theorem knX12_row : KM Wn mX12_row := KM_q kn_sX12_row
theorem kn_sX12_beginOf : KS Wn sX12_beginOf := (KS_Ret (KE_2 (KE_CV knX12_overAt (KA_1 KE_V (KA_1 KE_V KA_0))) (KE_2 (KE_CV knX12_unitsOf (KA_1 KE_V (KA_1 KE_V KA_0))) (KE_2 KE_V KE_I))))
theorem knX12_beginOf : KM Wn mX12_beginOf := KM_q kn_sX12_beginOf
theorem kn_cX12_rowAt_1 : KC Wn cX12_rowAt_1 := (KC_B KE_V (KE_CV knX12_rowsKept (KA_1 KE_V (KA_1 KE_V KA_0))))
theorem kn_bX12_rowAt_1 : KS Wn bX12_rowAt_1 := (KS_If (KC_E (KE_C knX12_isIn (KA_1 KE_V (KA_1 (KE_2 (KE_CV knX12_beginOf (KA_1 KE_V (KA_1 KE_V (KA_1 KE_V KA_0)))) KE_I) (KA_1 (KE_2 (KE_CV knX12_beginOf (KA_1 KE_V (KA_1 KE_V (KA_1 KE_V KA_0)))) (KE_CV knX12_unitsOf (KA_1 KE_V (KA_1 KE_V KA_0)))) KA_0))))) (KS_Ret KE_V) KS_Skip)
theorem kn_uX12_rowAt_1 : KS Wn uX12_rowAt_1 := KS_Inc
theorem kn_sX12_rowAt : KS Wn sX12_rowAt := (KS_Seq (KS_If (KC_Not (KC_E (KE_CV knX12_isArchive (KA_1 KE_V (KA_1 KE_V KA_0))))) (KS_Ret KE_I) KS_Skip) (KS_Seq (KS_Seq (KS_Set KE_I) (KS_While kn_cX12_rowAt_1 kn_bX12_rowAt_1 kn_uX12_rowAt_1)) (KS_Ret KE_I)))
theorem knX12_rowAt : KM Wn mX12_rowAt := KM_q kn_sX12_rowAt
theorem kn_sX12_isWithin : KS Wn sX12_isWithin := (KS_Ret (KE_B (KC_And (KC_B (KE_CV knX12_beginOf (KA_1 KE_V (KA_1 KE_V (KA_1 KE_V KA_0)))) KE_V) (KC_B (KE_2 (KE_CV knX12_beginOf (KA_1 KE_V (KA_1 KE_V (KA_1 KE_V KA_0)))) (KE_CV knX12_unitsOf (KA_1 KE_V (KA_1 KE_V KA_0)))) KE_V))))
theorem knX12_isWithin : KM Wn mX12_isWithin := KM_q kn_sX12_isWithin
theorem kn_cX12_laySpan_1 : KC Wn cX12_laySpan_1 := (KC_B KE_V (KE_CV knX12_rowsKept (KA_1 KE_V (KA_1 KE_V KA_0))))
theorem kn_bX12_laySpan_1 : KS Wn bX12_laySpan_1 := (KS_Seq (KS_If (KC_Not (KC_E (KE_CV knX12_isWithin (KA_1 KE_V (KA_1 KE_V (KA_1 KE_V (KA_1 KE_V (KA_1 KE_V KA_0)))))))) KS_Cnt KS_Skip) (KS_Seq (KS_PutC rfl KE_V KE_I) (KS_Seq (KS_Set (KE_A (KE_F KE_V) (KE_C knX12_atRow (KA_1 KE_V (KA_1 KE_V (KA_1 KE_V KA_0)))))) (KS_Seq (KS_If (KC_B KE_V KE_I) KS_Cnt KS_Skip) (KS_Seq (KS_If (KC_Or (KC_B (KE_F KE_V) KE_I) (KC_B KE_V (KE_F KE_V))) (KS_Put rfl KE_V KE_V) KS_Skip) (KS_Seq (KS_If (KC_Or (KC_B (KE_F KE_V) KE_I) (KC_B KE_V (KE_F KE_V))) (KS_Put rfl KE_V KE_V) KS_Skip) (KS_Seq (KS_PutC rfl KE_V KE_I) (KS_PutC rfl KE_V KE_V))))))))
theorem kn_uX12_laySpan_1 : KS Wn uX12_laySpan_1 := KS_Inc
theorem kn_sX12_laySpan : KS Wn sX12_laySpan := (KS_Seq (KS_Put rfl KE_V KE_I) (KS_Seq (KS_Put rfl KE_V KE_I) (KS_Seq (KS_Put rfl KE_V KE_I) (KS_Seq (KS_Put rfl KE_V KE_I) (KS_Seq (KS_Put rfl KE_V KE_I) (KS_Seq (KS_Seq (KS_Set KE_I) (KS_While kn_cX12_laySpan_1 kn_bX12_laySpan_1 kn_uX12_laySpan_1)) KS_RetV))))))
theorem knX12_laySpan : KM Wn mX12_laySpan := KM_q kn_sX12_laySpan
theorem kn_sX12_over : KS Wn sX12_over := (KS_Seq (KS_If (KC_Not (KC_E (KE_CV knX12_isBoth (KA_1 KE_V (KA_1 KE_V (KA_1 KE_V KA_0)))))) (KS_Ret KE_I) KS_Skip) (KS_Seq (KS_Do (KE_CV knX12_laySpan (KA_1 KE_V (KA_1 KE_V (KA_1 KE_V (KA_1 KE_V (KA_1 KE_V KA_0))))))) (KS_Sw KE_V (KF_1 (KS_Ret (KE_F KE_V)) (KF_1 (KS_Ret (KE_F KE_V)) (KF_1 (KS_Ret (KE_If (KC_B (KE_F KE_V) KE_I) KE_I (KE_1 (KE_D (KE_F KE_V) (KE_F KE_V))))) (KF_1 (KS_Ret (KE_1 (KE_F KE_V))) (KF_1 (KS_Ret (KE_1 (KE_F KE_V))) (KF_1 (KS_Ret (KE_2 (KE_2 (KE_F KE_V) (KE_F KE_V)) (KE_CV knX12_unitsOf (KA_1 KE_V (KA_1 KE_V KA_0))))) (KF_0 (KS_Ret KE_I)))))))))))
theorem knX12_over : KM Wn mX12_over := KM_q kn_sX12_over
theorem kn_sX12_total : KS Wn sX12_total := (KS_Seq (KS_If (KC_Not (KC_E (KE_CV knX12_isBoth (KA_1 KE_V (KA_1 KE_V (KA_1 KE_V KA_0)))))) (KS_Ret KE_I) KS_Skip) (KS_Seq (KS_Do (KE_CV knX12_laySpan (KA_1 KE_V (KA_1 KE_V (KA_1 KE_V (KA_1 KE_V (KA_1 KE_V KA_0))))))) (KS_Ret (KE_D (KE_2 (KE_F KE_V) (KE_CV knX12_unitsOf (KA_1 KE_V (KA_1 KE_V KA_0)))) KE_I))))
theorem knX12_total : KM Wn mX12_total := KM_q kn_sX12_total
theorem kn_cX12_knownRows_1 : KC Wn cX12_knownRows_1 := (KC_B KE_V (KE_CV knX12_rowsKept (KA_1 KE_V (KA_1 KE_V KA_0))))
theorem kn_bX12_knownRows_1 : KS Wn bX12_knownRows_1 := (KS_Set (KE_2 KE_V (KE_If (KC_B (KE_A (KE_F KE_V) (KE_C knX12_atRow (KA_1 KE_V (KA_1 KE_V (KA_1 KE_V KA_0))))) KE_I) KE_I KE_I)))
theorem kn_uX12_knownRows_1 : KS Wn uX12_knownRows_1 := KS_Inc
theorem kn_sX12_knownRows : KS Wn sX12_knownRows := (KS_Seq (KS_Set KE_I) (KS_Seq (KS_Seq (KS_Set KE_I) (KS_While kn_cX12_knownRows_1 kn_bX12_knownRows_1 kn_uX12_knownRows_1)) (KS_Ret KE_V)))
theorem knX12_knownRows : KM Wn mX12_knownRows := KM_q kn_sX12_knownRows
theorem kn_cX12_noGreater_1 : KC Wn cX12_noGreater_1 := (KC_B KE_V (KE_CV knX12_rowsKept (KA_1 KE_V (KA_1 KE_V KA_0))))
theorem kn_bX12_noGreater_1 : KS Wn bX12_noGreater_1 := (KS_Set (KE_2 KE_V (KE_If (KC_And (KC_B (KE_A (KE_F KE_V) (KE_C knX12_atRow (KA_1 KE_V (KA_1 KE_V (KA_1 KE_V KA_0))))) KE_I) (KC_B (KE_A (KE_F KE_V) (KE_C knX12_atRow (KA_1 KE_V (KA_1 KE_V (KA_1 KE_V KA_0))))) KE_V)) KE_I KE_I)))
theorem kn_uX12_noGreater_1 : KS Wn uX12_noGreater_1 := KS_Inc
theorem kn_sX12_noGreater : KS Wn sX12_noGreater := (KS_Seq (KS_Set KE_I) (KS_Seq (KS_Seq (KS_Set KE_I) (KS_While kn_cX12_noGreater_1 kn_bX12_noGreater_1 kn_uX12_noGreater_1)) (KS_Ret KE_V)))
theorem knX12_noGreater : KM Wn mX12_noGreater := KM_q kn_sX12_noGreater
theorem kn_cX12_share_1 : KC Wn cX12_share_1 := (KC_B KE_V (KE_CV knX12_rowsKept (KA_1 KE_V (KA_1 KE_V KA_0))))
theorem kn_bX12_share_1 : KS Wn bX12_share_1 := (KS_Seq (KS_Set (KE_A (KE_F KE_V) (KE_C knX12_atRow (KA_1 KE_V (KA_1 KE_V (KA_1 KE_V KA_0)))))) (KS_Seq (KS_If (KC_Or (KC_B KE_V KE_I) (KC_B (KE_2 KE_I (KE_CV knX12_noGreater (KA_1 KE_V (KA_1 KE_V (KA_1 KE_V (KA_1 KE_V KA_0)))))) (KE_2 KE_V KE_V))) KS_Cnt KS_Skip) (KS_If (KC_Or (KC_B KE_V KE_I) (KC_B KE_V KE_V)) (KS_Set KE_V) KS_Skip)))
theorem kn_uX12_share_1 : KS Wn uX12_share_1 := KS_Inc
theorem kn_sX12_share : KS Wn sX12_share := (KS_Seq (KS_If (KC_Or (KC_Not (KC_E (KE_CV knX12_isBoth (KA_1 KE_V (KA_1 KE_V (KA_1 KE_V KA_0)))))) (KC_Not (KC_E (KE_C knX12_isIn (KA_1 KE_V (KA_1 KE_I (KA_1 KE_I KA_0))))))) (KS_Ret KE_I) KS_Skip) (KS_Seq (KS_Set (KE_CV knX12_knownRows (KA_1 KE_V (KA_1 KE_V (KA_1 KE_V KA_0))))) (KS_Seq (KS_Set KE_I) (KS_Seq (KS_Seq (KS_Set KE_I) (KS_While kn_cX12_share_1 kn_bX12_share_1 kn_uX12_share_1)) (KS_Ret (KE_1 KE_V))))))
theorem knX12_share : KM Wn mX12_share := KM_q kn_sX12_share
theorem kn_cX12_smooth_1 : KC Wn cX12_smooth_1 := (KC_And (KC_B KE_V (KE_2 KE_V KE_V)) (KC_B KE_V (KE_CV knX12_rowsKept (KA_1 KE_V (KA_1 KE_V KA_0)))))
theorem kn_bX12_smooth_1 : KS Wn bX12_smooth_1 := (KS_Seq (KS_Set (KE_A (KE_F KE_V) (KE_C knX12_atRow (KA_1 KE_V (KA_1 KE_V (KA_1 KE_V KA_0)))))) (KS_Seq (KS_If (KC_B KE_V KE_I) KS_Cnt KS_Skip) (KS_Seq (KS_Set (KE_2 KE_V KE_V)) KS_Inc)))
theorem kn_uX12_smooth_1 : KS Wn uX12_smooth_1 := KS_Inc
theorem kn_sX12_smooth : KS Wn sX12_smooth := (KS_Seq (KS_If (KC_Or (KC_Not (KC_E (KE_CV knX12_isRow (KA_1 KE_V (KA_1 KE_V (KA_1 KE_V (KA_1 KE_V KA_0))))))) (KC_Not (KC_E (KE_C knX12_isIn (KA_1 KE_V (KA_1 KE_I (KA_1 KE_I KA_0))))))) (KS_Ret KE_I) KS_Skip) (KS_Seq (KS_Set KE_I) (KS_Seq (KS_Set KE_I) (KS_Seq (KS_Seq (KS_Set KE_V) (KS_While kn_cX12_smooth_1 kn_bX12_smooth_1 kn_uX12_smooth_1)) (KS_Ret (KE_If (KC_B KE_V KE_I) KE_I (KE_1 (KE_D KE_V KE_V))))))))
theorem knX12_smooth : KM Wn mX12_smooth := KM_q kn_sX12_smooth
theorem kn_sX12_wayOf : KS Wn sX12_wayOf := (KS_Seq (KS_Set (KE_A (KE_F KE_V) (KE_C knX12_atRow (KA_1 KE_V (KA_1 KE_V (KA_1 KE_V KA_0)))))) (KS_Seq (KS_Set (KE_A (KE_F KE_V) (KE_C knX12_atRow (KA_1 KE_V (KA_1 KE_V (KA_1 (KE_2 KE_V KE_I) KA_0)))))) (KS_Ret (KE_If (KC_Or (KC_Or (KC_B KE_V KE_I) (KC_B KE_V KE_I)) (KC_B KE_V KE_V)) KE_I (KE_If (KC_B KE_V KE_V) KE_I KE_I)))))
theorem knX12_wayOf : KM Wn mX12_wayOf := KM_q kn_sX12_wayOf
theorem kn_cX12_alike_1 : KC Wn cX12_alike_1 := (KC_B (KE_2 KE_V KE_I) (KE_CV knX12_rowsKept (KA_1 KE_V (KA_1 KE_V KA_0))))
theorem kn_bX12_alike_1 : KS Wn bX12_alike_1 := (KS_Set (KE_2 KE_V (KE_If (KC_B (KE_2 (KE_CV knX12_wayOf (KA_1 KE_V (KA_1 KE_V (KA_1 KE_V (KA_1 KE_V KA_0))))) (KE_CV knX12_wayOf (KA_1 KE_V (KA_1 KE_V (KA_1 KE_V (KA_1 KE_V KA_0)))))) KE_I) KE_I KE_I)))
theorem kn_uX12_alike_1 : KS Wn uX12_alike_1 := KS_Inc
theorem kn_sX12_alike : KS Wn sX12_alike := (KS_Seq (KS_If (KC_Or (KC_Not (KC_E (KE_CV knX12_isBoth (KA_1 KE_V (KA_1 KE_V (KA_1 KE_V KA_0)))))) (KC_Not (KC_E (KE_CV knX12_isMeasure (KA_1 KE_V (KA_1 KE_V KA_0)))))) (KS_Ret KE_I) KS_Skip) (KS_Seq (KS_Set KE_I) (KS_Seq (KS_Seq (KS_Set KE_I) (KS_While kn_cX12_alike_1 kn_bX12_alike_1 kn_uX12_alike_1)) (KS_Ret KE_V))))
theorem knX12_alike : KM Wn mX12_alike := KM_q kn_sX12_alike
theorem kn_sX12_left : KS Wn sX12_left := (KS_Seq (KS_If (KC_Not (KC_E (KE_CV knX12_isArchive (KA_1 KE_V (KA_1 KE_V KA_0))))) (KS_Ret KE_I) KS_Skip) (KS_Ret (KE_1 (KE_2 (KE_CV knX12_unitsOf (KA_1 KE_V (KA_1 KE_V KA_0))) (KE_D (KE_A (KE_F KE_V) KE_I) (KE_CV knX12_unitsOf (KA_1 KE_V (KA_1 KE_V KA_0))))))))
theorem knX12_left : KM Wn mX12_left := KM_q kn_sX12_left
theorem kn_cX12_gap_1 : KC Wn cX12_gap_1 := (KC_B KE_V (KE_CV knX12_rowsKept (KA_1 KE_V (KA_1 KE_V KA_0))))
theorem kn_bX12_gap_1 : KS Wn bX12_gap_1 := (KS_Seq (KS_Set (KE_If (KC_B (KE_A (KE_F KE_V) (KE_C knX12_atRow (KA_1 KE_V (KA_1 KE_V (KA_1 KE_V KA_0))))) KE_I) (KE_2 KE_V KE_I) KE_I)) (KS_Seq (KS_If (KC_B KE_V KE_V) KS_Cnt KS_Skip) (KS_Seq (KS_Set KE_V) (KS_Set (KE_2 (KE_2 KE_V KE_V) KE_I)))))
theorem kn_uX12_gap_1 : KS Wn uX12_gap_1 := KS_Inc
theorem kn_sX12_gap : KS Wn sX12_gap := (KS_Seq (KS_If (KC_Or (KC_Not (KC_E (KE_CV knX12_isBoth (KA_1 KE_V (KA_1 KE_V (KA_1 KE_V KA_0)))))) (KC_Not (KC_E (KE_C knX12_isIn (KA_1 KE_V (KA_1 KE_I (KA_1 KE_I KA_0))))))) (KS_Ret KE_I) KS_Skip) (KS_Seq (KS_Set KE_I) (KS_Seq (KS_Set KE_I) (KS_Seq (KS_Set KE_I) (KS_Seq (KS_Seq (KS_Set KE_I) (KS_While kn_cX12_gap_1 kn_bX12_gap_1 kn_uX12_gap_1)) (KS_Ret (KE_If (KC_B KE_V KE_I) KE_V KE_V)))))))
theorem knX12_gap : KM Wn mX12_gap := KM_q kn_sX12_gap
theorem kn_cX12_rise_1 : KC Wn cX12_rise_1 := (KC_B KE_V (KE_CV knX12_rowsKept (KA_1 KE_V (KA_1 KE_V KA_0))))
theorem kn_bX12_rise_1 : KS Wn bX12_rise_1 := (KS_Seq (KS_Set (KE_A (KE_F KE_V) (KE_C knX12_atRow (KA_1 KE_V (KA_1 KE_V (KA_1 KE_V KA_0)))))) (KS_Seq (KS_Set (KE_2 (KE_2 (KE_CV knX12_rowsKept (KA_1 KE_V (KA_1 KE_V KA_0))) KE_I) KE_V)) (KS_Seq (KS_If (KC_B KE_V KE_I) KS_Cnt KS_Skip) (KS_Seq (KS_Set (KE_2 KE_V KE_I)) (KS_Seq (KS_Set (KE_2 KE_V KE_V)) (KS_Seq (KS_Set (KE_2 KE_V KE_V)) (KS_Seq (KS_Set (KE_2 KE_V (KE_2 KE_V KE_V))) (KS_Set (KE_2 KE_V (KE_2 KE_V KE_V))))))))))
theorem kn_uX12_rise_1 : KS Wn uX12_rise_1 := KS_Inc
theorem kn_sX12_rise : KS Wn sX12_rise := (KS_Seq (KS_If (KC_Not (KC_E (KE_CV knX12_isBoth (KA_1 KE_V (KA_1 KE_V (KA_1 KE_V KA_0)))))) (KS_Ret KE_I) KS_Skip) (KS_Seq (KS_Set KE_I) (KS_Seq (KS_Set KE_I) (KS_Seq (KS_Set KE_I) (KS_Seq (KS_Set KE_I) (KS_Seq (KS_Set KE_I) (KS_Seq (KS_Seq (KS_Set KE_I) (KS_While kn_cX12_rise_1 kn_bX12_rise_1 kn_uX12_rise_1)) (KS_Ret (KE_If (KC_B KE_V KE_I) KE_I (KE_1 (KE_D (KE_2 (KE_2 KE_V KE_V) (KE_2 KE_V KE_V)) (KE_2 (KE_2 KE_V KE_V) (KE_2 KE_V KE_V)))))))))))))
theorem knX12_rise : KM Wn mX12_rise := KM_q kn_sX12_rise
theorem kn_sX12_eldestFrom : KS Wn sX12_eldestFrom := (KS_Ret (KE_CV knX12_beginOf (KA_1 KE_V (KA_1 KE_V (KA_1 (KE_2 (KE_CV knX12_rowsKept (KA_1 KE_V (KA_1 KE_V KA_0))) KE_I) KA_0)))))
theorem knX12_eldestFrom : KM Wn mX12_eldestFrom := KM_q kn_sX12_eldestFrom
theorem kn_sX12_isBetter : KS Wn sX12_isBetter := (KS_Seq (KS_Set (KE_B (KC_B (KE_CV knX12_eldestFrom (KA_1 KE_V (KA_1 KE_V KA_0))) KE_V))) (KS_Seq (KS_Set (KE_B (KC_B (KE_CV knX12_eldestFrom (KA_1 KE_V (KA_1 KE_V KA_0))) KE_V))) (KS_Seq (KS_If (KC_B KE_V KE_V) (KS_Ret KE_V) KS_Skip) (KS_Seq (KS_If (KC_And (KC_Not (KC_E KE_V)) (KC_B (KE_CV knX12_eldestFrom (KA_1 KE_V (KA_1 KE_V KA_0))) (KE_CV knX12_eldestFrom (KA_1 KE_V (KA_1 KE_V KA_0))))) (KS_Ret (KE_B (KC_B (KE_CV knX12_eldestFrom (KA_1 KE_V (KA_1 KE_V KA_0))) (KE_CV knX12_eldestFrom (KA_1 KE_V (KA_1 KE_V KA_0)))))) KS_Skip) (KS_Ret (KE_B (KC_B (KE_A (KE_F KE_V) (KE_C knX12_own (KA_1 (KE_F KE_V) (KA_1 KE_V KA_0)))) (KE_A (KE_F KE_V) (KE_C knX12_own (KA_1 (KE_F KE_V) (KA_1 KE_V KA_0)))))))))))
theorem knX12_isBetter : KM Wn mX12_isBetter := KM_q kn_sX12_isBetter
theorem kn_cX12_best_1 : KC Wn cX12_best_1 := (KC_B KE_V (KE_CV knX12_archivesNow (KA_1 KE_V KA_0)))
theorem kn_bX12_best_1 : KS Wn bX12_best_1 := (KS_Seq (KS_If (KC_Or (KC_B (KE_A (KE_F KE_V) (KE_C knX12_own (KA_1 (KE_F KE_V) (KA_1 KE_V KA_0)))) KE_V) (KC_B (KE_CV knX12_rowsKept (KA_1 KE_V (KA_1 KE_V KA_0))) KE_I)) KS_Cnt KS_Skip) (KS_If (KC_Or (KC_B KE_V KE_I) (KC_E (KE_CV knX12_isBetter (KA_1 KE_V (KA_1 KE_V (KA_1 KE_V (KA_1 KE_V KA_0))))))) (KS_Set KE_V) KS_Skip))
theorem kn_uX12_best_1 : KS Wn uX12_best_1 := KS_Inc
theorem kn_sX12_best : KS Wn sX12_best := (KS_Seq (KS_Set KE_I) (KS_Seq (KS_If (KC_B KE_V KE_I) (KS_Ret KE_V) KS_Skip) (KS_Seq (KS_Seq (KS_Set KE_I) (KS_While kn_cX12_best_1 kn_bX12_best_1 kn_uX12_best_1)) (KS_Ret KE_V))))
theorem knX12_best : KM Wn mX12_best := KM_q kn_sX12_best
theorem kn_sX12_forecast : KS Wn sX12_forecast := (KS_Seq (KS_If (KC_Not (KC_E (KE_CV knX12_isFollowed (KA_1 KE_V (KA_1 KE_V KA_0))))) (KS_Ret KE_I) KS_Skip) (KS_Sw KE_V (KF_1 (KS_Ret (KE_1 (KE_A (KE_F KE_V) (KE_C knX12_atForecast (KA_1 KE_V (KA_1 KE_I KA_0)))))) (KF_1 (KS_Ret (KE_1 (KE_A (KE_F KE_V) (KE_C knX12_atForecast (KA_1 KE_V (KA_1 KE_I KA_0)))))) (KF_1 (KS_Ret (KE_1 (KE_A (KE_F KE_V) (KE_C knX12_atForecast (KA_1 KE_V (KA_1 KE_I KA_0)))))) (KF_1 (KS_Ret (KE_A (KE_F KE_V) (KE_C knX12_own (KA_1 (KE_F KE_V) (KA_1 KE_V KA_0))))) (KF_1 (KS_Ret (KE_A (KE_F KE_V) (KE_C knX12_own (KA_1 (KE_F KE_V) (KA_1 KE_V KA_0))))) (KF_1 (KS_Ret (KE_1 (KE_A (KE_F KE_V) (KE_C knX12_atForecast (KA_1 KE_V (KA_1 KE_I KA_0)))))) (KF_0 (KS_Ret KE_I))))))))))
theorem knX12_forecast : KM Wn mX12_forecast := KM_q kn_sX12_forecast
theorem kn_sX12_place : KS Wn sX12_place := (KS_Seq (KS_If (KC_Or (KC_Or (KC_Not (KC_E (KE_CV knX12_isFollowed (KA_1 KE_V (KA_1 KE_V KA_0))))) (KC_Not (KC_E (KE_C knX12_isIn (KA_1 KE_V (KA_1 KE_I (KA_1 (KE_2 (KE_A (KE_F KE_V) (KE_C knX12_own (KA_1 (KE_F KE_V) (KA_1 KE_V KA_0)))) KE_I) KA_0))))))) (KC_Not (KC_E (KE_C knX12_isIn (KA_1 KE_V (KA_1 KE_I (KA_1 KE_I KA_0))))))) (KS_Ret KE_I) KS_Skip) (KS_Ret (KE_1 (KE_A (KE_F KE_V) (KE_C knX12_atForecast (KA_1 KE_V (KA_1 (KE_2 (KE_If (KC_B KE_V KE_I) KE_I KE_I) KE_V) KA_0)))))))
theorem knX12_place : KM Wn mX12_place := KM_q kn_sX12_place
theorem kn_sX12_told : KS Wn sX12_told := (KS_Seq (KS_If (KC_Or (KC_Or (KC_Not (KC_E (KE_CV knX12_isFollowed (KA_1 KE_V (KA_1 KE_V KA_0))))) (KC_Not (KC_E (KE_C knX12_isIn (KA_1 KE_V (KA_1 KE_I (KA_1 (KE_2 (KE_A (KE_F KE_V) (KE_C knX12_atForecast (KA_1 KE_V (KA_1 KE_I KA_0)))) KE_I) KA_0))))))) (KC_Not (KC_E (KE_C knX12_isIn (KA_1 KE_V (KA_1 KE_I (KA_1 KE_I KA_0))))))) (KS_Ret KE_I) KS_Skip) (KS_Ret (KE_1 (KE_A (KE_F KE_V) (KE_C knX12_atForecast (KA_1 KE_V (KA_1 (KE_2 (KE_If (KC_B KE_V KE_I) KE_I KE_I) KE_V) KA_0)))))))
theorem knX12_told : KM Wn mX12_told := KM_q kn_sX12_told
theorem kn_cX12_odd_1 : KC Wn cX12_odd_1 := (KC_And (KC_B KE_V KE_V) (KC_B KE_V (KE_A (KE_F KE_V) (KE_C knX12_atForecast (KA_1 KE_V (KA_1 KE_I KA_0))))))
theorem kn_bX12_odd_1 : KS Wn bX12_odd_1 := (KS_Set (KE_2 KE_V (KE_1 (KE_A (KE_F KE_V) (KE_C knX12_atForecast (KA_1 KE_V (KA_1 (KE_2 KE_I KE_V) KA_0)))))))
theorem kn_uX12_odd_1 : KS Wn uX12_odd_1 := KS_Inc
theorem kn_sX12_odd : KS Wn sX12_odd := (KS_Seq (KS_If (KC_Or (KC_Not (KC_E (KE_CV knX12_isFollowed (KA_1 KE_V (KA_1 KE_V KA_0))))) (KC_Not (KC_E (KE_C knX12_isIn (KA_1 KE_V (KA_1 KE_I (KA_1 KE_I KA_0))))))) (KS_Ret KE_I) KS_Skip) (KS_Seq (KS_Set KE_I) (KS_Seq (KS_Seq (KS_Set KE_I) (KS_While kn_cX12_odd_1 kn_bX12_odd_1 kn_uX12_odd_1)) (KS_Ret KE_V))))
theorem knX12_odd : KM Wn mX12_odd := KM_q kn_sX12_odd
theorem kn_cX12_oddFrom_1 : KC Wn cX12_oddFrom_1 := (KC_B KE_V (KE_2 KE_V KE_V))
theorem kn_bX12_oddFrom_1 : KS Wn bX12_oddFrom_1 := (KS_Set (KE_2 KE_V (KE_1 (KE_A (KE_F KE_V) (KE_C knX12_atForecast (KA_1 KE_V (KA_1 (KE_2 KE_I KE_V) KA_0)))))))
theorem kn_uX12_oddFrom_1 : KS Wn uX12_oddFrom_1 := KS_Inc
theorem kn_sX12_oddFrom : KS Wn sX12_oddFrom := (KS_Seq (KS_Set KE_I) (KS_Seq (KS_Seq (KS_Set KE_V) (KS_While kn_cX12_oddFrom_1 kn_bX12_oddFrom_1 kn_uX12_oddFrom_1)) (KS_Ret KE_V)))
theorem knX12_oddFrom : KM Wn mX12_oddFrom := KM_q kn_sX12_oddFrom
theorem kn_cX12_alarms_1 : KC Wn cX12_alarms_1 := (KC_B (KE_2 KE_V KE_V) (KE_A (KE_F KE_V) (KE_C knX12_atForecast (KA_1 KE_V (KA_1 KE_I KA_0)))))
theorem kn_bX12_alarms_1 : KS Wn bX12_alarms_1 := (KS_Set (KE_2 KE_V (KE_If (KC_B (KE_CV knX12_oddFrom (KA_1 KE_V (KA_1 KE_V (KA_1 KE_V (KA_1 KE_V KA_0))))) KE_V) KE_I KE_I)))
theorem kn_uX12_alarms_1 : KS Wn uX12_alarms_1 := KS_Inc
theorem kn_sX12_alarms : KS Wn sX12_alarms := (KS_Seq (KS_If (KC_Or (KC_Or (KC_Not (KC_E (KE_CV knX12_isFollowed (KA_1 KE_V (KA_1 KE_V KA_0))))) (KC_Not (KC_E (KE_C knX12_isIn (KA_1 KE_V (KA_1 KE_I (KA_1 KE_I KA_0))))))) (KC_Not (KC_E (KE_C knX12_isIn (KA_1 KE_V (KA_1 KE_I (KA_1 KE_I KA_0))))))) (KS_Ret KE_I) KS_Skip) (KS_Seq (KS_Set KE_I) (KS_Seq (KS_Seq (KS_Set KE_I) (KS_While kn_cX12_alarms_1 kn_bX12_alarms_1 kn_uX12_alarms_1)) (KS_Ret KE_V))))
theorem knX12_alarms : KM Wn mX12_alarms := KM_q kn_sX12_alarms
theorem kn_cX12_ahead_1 : KC Wn cX12_ahead_1 := (KC_B KE_V KE_V)
theorem kn_bX12_ahead_1 : KS Wn bX12_ahead_1 := (KS_Set (KE_C knX12_held (KA_1 (KE_2 KE_V KE_V) KA_0)))
theorem kn_uX12_ahead_1 : KS Wn uX12_ahead_1 := KS_Inc
theorem kn_sX12_ahead : KS Wn sX12_ahead := (KS_Seq (KS_If (KC_Or (KC_Or (KC_Not (KC_E (KE_CV knX12_isFollowed (KA_1 KE_V (KA_1 KE_V KA_0))))) (KC_B (KE_A (KE_F KE_V) (KE_C knX12_atForecast (KA_1 KE_V (KA_1 KE_I KA_0)))) KE_I)) (KC_Not (KC_E (KE_C knX12_isIn (KA_1 KE_V (KA_1 KE_I (KA_1 KE_I KA_0))))))) (KS_Ret KE_I) KS_Skip) (KS_Seq (KS_Set (KE_A (KE_F KE_V) (KE_C knX12_atForecast (KA_1 KE_V (KA_1 KE_I KA_0))))) (KS_Seq (KS_Set (KE_A (KE_F KE_V) (KE_C knX12_atForecast (KA_1 KE_V (KA_1 KE_I KA_0))))) (KS_Seq (KS_Seq (KS_Set KE_I) (KS_While kn_cX12_ahead_1 kn_bX12_ahead_1 kn_uX12_ahead_1)) (KS_Ret (KE_1 (KE_C knX12_held (KA_1 (KE_2 (KE_2 KE_V KE_V) (KE_A (KE_F KE_V) (KE_C knX12_atForecast (KA_1 KE_V (KA_1 (KE_2 KE_I (KE_CV knX12_placeNow (KA_1 KE_V (KA_1 KE_V (KA_1 (KE_2 KE_V KE_I) KA_0))))) KA_0))))) KA_0))))))))
theorem knX12_ahead : KM Wn mX12_ahead := KM_q kn_sX12_ahead
theorem kn_sX12_madeOf : KS Wn sX12_madeOf := (KS_Seq (KS_If (KC_B KE_V KE_I) (KS_Ret (KE_If (KC_B KE_V KE_I) KE_V KE_V)) KS_Skip) (KS_Seq (KS_If (KC_Or (KC_Or (KC_B KE_V KE_I) (KC_B KE_V KE_I)) (KC_And (KC_B KE_V KE_I) (KC_B KE_V KE_I))) (KS_Ret KE_I) KS_Skip) (KS_Sw KE_V (KF_1 (KS_Ret (KE_C knX12_held (KA_1 (KE_2 KE_V KE_V) KA_0))) (KF_1 (KS_Ret (KE_C knX12_held (KA_1 (KE_2 KE_V KE_V) KA_0))) (KF_1 (KS_Ret (KE_C knX12_held (KA_1 (KE_D (KE_2 KE_V KE_V) KE_I) KA_0))) (KF_0 (KS_Ret (KE_C knX12_held (KA_1 (KE_D (KE_2 KE_I KE_V) KE_V) KA_0))))))))))
theorem knX12_madeOf : KM Wn mX12_madeOf := KM_q kn_sX12_madeOf
theorem kn_sX12_unitAt : KS Wn sX12_unitAt := (KS_Seq (KS_If (KC_B KE_V KE_I) (KS_Ret (KE_A (KE_F KE_V) (KE_2 KE_V KE_I))) KS_Skip) (KS_Ret (KE_If (KC_B KE_V KE_I) (KE_A (KE_F KE_V) (KE_C knX12_atRow (KA_1 KE_V (KA_1 (KE_2 KE_V KE_I) (KA_1 KE_V KA_0))))) (KE_2 KE_I KE_V))))
theorem knX12_unitAt : KM Wn mX12_unitAt := KM_q kn_sX12_unitAt
theorem kn_cX12_showOf_2 : KC Wn cX12_showOf_2 := (KC_B KE_V (KE_A (KE_F KE_V) (KE_C knX12_own (KA_1 (KE_F KE_V) (KA_1 KE_V KA_0)))))
theorem kn_bX12_showOf_2 : KS Wn bX12_showOf_2 := (KS_Seq (KS_Set (KE_A (KE_F KE_V) (KE_2 (KE_2 KE_I (KE_F KE_V)) KE_V))) (KS_If (KC_B KE_V KE_I) (KS_Seq KS_Inc (KS_Arr (fun _ => rfl) (KE_F KE_V) (KE_2 KE_V KE_I) (KE_C knX12_madeOf (KA_1 KE_V (KA_1 (KE_A (KE_F KE_V) (KE_2 KE_V KE_I)) (KA_1 (KE_A (KE_F KE_V) KE_V) KA_0)))))) (KS_Seq (KS_Arr (fun _ => rfl) (KE_F KE_V) KE_V (KE_CV knX12_unitAt (KA_1 KE_V (KA_1 KE_V (KA_1 KE_V (KA_1 KE_V KA_0)))))) KS_Inc)))
theorem kn_uX12_showOf_2 : KS Wn uX12_showOf_2 := KS_Inc
theorem kn_cX12_showOf_1 : KC Wn cX12_showOf_1 := (KC_B KE_V KE_V)
theorem kn_bX12_showOf_1 : KS Wn bX12_showOf_1 := (KS_Seq (KS_Set KE_I) (KS_Seq (KS_While kn_cX12_showOf_2 kn_bX12_showOf_2 kn_uX12_showOf_2) (KS_Arr (fun _ => rfl) (KE_F KE_V) KE_V (KE_A (KE_F KE_V) KE_I))))
theorem kn_uX12_showOf_1 : KS Wn uX12_showOf_1 := KS_Inc
theorem kn_sX12_showOf : KS Wn sX12_showOf := (KS_Seq (KS_Set KE_I) (KS_Seq (KS_Seq (KS_Set KE_I) (KS_While kn_cX12_showOf_1 kn_bX12_showOf_1 kn_uX12_showOf_1)) (KS_Ret (KE_A (KE_F KE_V) KE_V))))
theorem knX12_showOf : KM Wn mX12_showOf := KM_q kn_sX12_showOf
theorem kn_sX12_isShow : KS Wn sX12_isShow := (KS_Ret (KE_C knX12_isIn (KA_1 KE_V (KA_1 KE_I (KA_1 (KE_2 (KE_A (KE_F KE_V) (KE_F KE_V)) KE_I) KA_0)))))
theorem knX12_isShow : KM Wn mX12_isShow := KM_q kn_sX12_isShow
theorem kn_sX12_show : KS Wn sX12_show := (KS_Ret (KE_If (KC_And (KC_And (KC_E (KE_CV knX12_isShow (KA_1 KE_V (KA_1 KE_V KA_0)))) (KC_E (KE_CV knX12_isArchive (KA_1 KE_V (KA_1 KE_V KA_0))))) (KC_E (KE_C knX12_isIn (KA_1 KE_V (KA_1 KE_I (KA_1 (KE_2 (KE_CV knX12_rowsKept (KA_1 KE_V (KA_1 KE_V KA_0))) KE_I) KA_0)))))) (KE_1 (KE_CV knX12_showOf (KA_1 KE_V (KA_1 KE_V (KA_1 KE_V (KA_1 KE_V KA_0)))))) KE_I))
theorem knX12_show : KM Wn mX12_show := KM_q kn_sX12_show
theorem kn_cX12_shows_1 : KC Wn cX12_shows_1 := (KC_B KE_V (KE_CV knX12_rowsKept (KA_1 KE_V (KA_1 KE_V KA_0))))
theorem kn_bX12_shows_1 : KS Wn bX12_shows_1 := (KS_Seq (KS_Set (KE_CV knX12_showOf (KA_1 KE_V (KA_1 KE_V (KA_1 KE_V (KA_1 KE_V KA_0)))))) (KS_Seq (KS_If (KC_B KE_V KE_I) KS_Cnt KS_Skip) (KS_Seq (KS_If (KC_Or (KC_B KE_V KE_I) (KC_B KE_V KE_V)) (KS_Seq (KS_Set KE_V) (KS_Set KE_V)) KS_Skip) (KS_Seq (KS_If (KC_Or (KC_B KE_V KE_I) (KC_B KE_V KE_V)) (KS_Set KE_V) KS_Skip) KS_Inc))))
theorem kn_uX12_shows_1 : KS Wn uX12_shows_1 := KS_Inc
theorem kn_sX12_shows : KS Wn sX12_shows := (KS_Seq (KS_If (KC_Or (KC_Or (KC_Not (KC_E (KE_CV knX12_isShow (KA_1 KE_V (KA_1 KE_V KA_0))))) (KC_Not (KC_E (KE_CV knX12_isArchive (KA_1 KE_V (KA_1 KE_V KA_0)))))) (KC_Not (KC_E (KE_C knX12_isIn (KA_1 KE_V (KA_1 KE_I (KA_1 KE_I KA_0))))))) (KS_Ret KE_I) KS_Skip) (KS_Seq (KS_Set KE_I) (KS_Seq (KS_Set KE_I) (KS_Seq (KS_Set KE_I) (KS_Seq (KS_Set KE_I) (KS_Seq (KS_Seq (KS_Set KE_I) (KS_While kn_cX12_shows_1 kn_bX12_shows_1 kn_uX12_shows_1)) (KS_Ret (KE_If (KC_B KE_V KE_I) KE_V (KE_If (KC_B KE_V KE_I) (KE_1 KE_V) (KE_If (KC_B KE_V KE_I) (KE_1 KE_V) KE_V))))))))))
theorem knX12_shows : KM Wn mX12_shows := KM_q kn_sX12_shows
theorem kn_cX12_would_1 : KC Wn cX12_would_1 := (KC_B KE_V KE_I)
theorem kn_bX12_would_1 : KS Wn bX12_would_1 := (KS_Arr (fun _ => rfl) (KE_F KE_V) KE_V (KE_A (KE_F KE_V) KE_V))
theorem kn_uX12_would_1 : KS Wn uX12_would_1 := KS_Inc
theorem kn_cX12_would_2 : KC Wn cX12_would_2 := (KC_B KE_V KE_I)
theorem kn_bX12_would_2 : KS Wn bX12_would_2 := (KS_Arr (fun _ => rfl) (KE_F KE_V) KE_V (KE_A (KE_F KE_V) KE_V))
theorem kn_uX12_would_2 : KS Wn uX12_would_2 := KS_Inc
theorem kn_sX12_would : KS Wn sX12_would := (KS_Seq (KS_If (KC_Or (KC_Or (KC_Not (KC_E (KE_CV knX12_canRead (KA_1 KE_V (KA_1 KE_V KA_0))))) (KC_Not (KC_E (KE_CV knX12_isMeasure (KA_1 KE_V (KA_1 KE_V KA_0)))))) (KC_Not (KC_E (KE_C knX12_isIn (KA_1 KE_V (KA_1 KE_I (KA_1 KE_I KA_0))))))) (KS_Ret KE_I) KS_Skip) (KS_Seq (KS_Seq (KS_Set KE_I) (KS_While kn_cX12_would_1 kn_bX12_would_1 kn_uX12_would_1)) (KS_Seq (KS_Do (KE_CV knX12_give (KA_1 KE_V (KA_1 KE_I (KA_1 KE_I (KA_1 KE_I (KA_1 KE_I KA_0))))))) (KS_Seq (KS_Arr (fun _ => rfl) (KE_F KE_V) KE_V KE_V) (KS_Seq (KS_Set (KE_CV knX12_goRead (KA_1 KE_V (KA_1 KE_V KA_0)))) (KS_Seq (KS_Set (KE_If (KC_B KE_V KE_I) (KE_A (KE_F KE_V) (KE_C knX12_atMeasure (KA_1 KE_V (KA_1 KE_I KA_0)))) (KE_If (KC_B KE_V KE_I) (KE_A (KE_F KE_V) (KE_C knX12_atMeasure (KA_1 KE_V (KA_1 KE_I KA_0)))) KE_V))) (KS_Seq (KS_Seq (KS_Set KE_I) (KS_While kn_cX12_would_2 kn_bX12_would_2 kn_uX12_would_2)) (KS_Ret (KE_1 KE_V)))))))))
theorem knX12_would : KM Wn mX12_would := KM_q kn_sX12_would
theorem kn_sX12_isEnough : KS Wn sX12_isEnough := (KS_Seq (KS_Set (KE_C knX12_own (KA_1 (KE_F KE_V) (KA_1 KE_V KA_0)))) (KS_Seq (KS_Set (KE_If (KC_B (KE_A (KE_F KE_V) KE_V) KE_I) (KE_2 KE_I KE_V) (KE_If (KC_B (KE_A (KE_F KE_V) KE_V) KE_I) (KE_D (KE_2 KE_I KE_V) KE_V) (KE_D (KE_2 KE_I (KE_C knX12_wentOn (KA_1 KE_V (KA_1 (KE_A (KE_F KE_V) (KE_C knX12_atMeasure (KA_1 KE_V (KA_1 KE_I KA_0)))) (KA_1 (KE_A (KE_F KE_V) KE_V) (KA_1 (KE_A (KE_F KE_V) KE_V) KA_0)))))) KE_V)))) (KS_Ret (KE_B (KC_B KE_V (KE_2 KE_I (KE_A (KE_F KE_V) (KE_C knX12_atMeasure (KA_1 KE_V (KA_1 KE_I KA_0))))))))))
theorem knX12_isEnough : KM Wn mX12_isEnough := KM_q kn_sX12_isEnough
theorem kn_cX12_leastIn_1 : KC Wn cX12_leastIn_1 := (KC_B KE_V KE_V)
theorem kn_bX12_leastIn_1 : KS Wn bX12_leastIn_1 := (KS_Seq (KS_Set (KE_D (KE_2 KE_V KE_V) KE_I)) (KS_If (KC_E (KE_CV knX12_isEnough (KA_1 KE_V (KA_1 KE_V (KA_1 KE_V (KA_1 KE_V KA_0)))))) (KS_Set KE_V) (KS_Set (KE_2 KE_V KE_I))))
theorem kn_uX12_leastIn_1 : KS Wn uX12_leastIn_1 := KS_Skip
theorem kn_sX12_leastIn : KS Wn sX12_leastIn := (KS_Seq (KS_Set KE_V) (KS_Seq (KS_Set KE_V) (KS_Seq (KS_While kn_cX12_leastIn_1 kn_bX12_leastIn_1 kn_uX12_leastIn_1) (KS_Ret (KE_If (KC_And (KC_B KE_V KE_V) (KC_B (KE_CV knX12_rateOf (KA_1 KE_V (KA_1 KE_V (KA_1 KE_V (KA_1 KE_V KA_0))))) KE_I)) (KE_1 KE_V) KE_I)))))
theorem knX12_leastIn : KM Wn mX12_leastIn := KM_q kn_sX12_leastIn
theorem kn_sX12_fits : KS Wn sX12_fits := (KS_Seq (KS_If (KC_Or (KC_Not (KC_E (KE_CV knX12_canRead (KA_1 KE_V (KA_1 KE_V KA_0))))) (KC_Not (KC_E (KE_CV knX12_isMeasure (KA_1 KE_V (KA_1 KE_V KA_0)))))) (KS_Ret KE_I) KS_Skip) (KS_Seq (KS_Set (KE_C knX12_own (KA_1 (KE_F KE_V) (KA_1 KE_V KA_0)))) (KS_Seq (KS_Set (KE_A (KE_F KE_V) (KE_C knX12_atMeasure (KA_1 KE_V (KA_1 KE_I KA_0))))) (KS_Seq (KS_If (KC_B (KE_A (KE_F KE_V) KE_V) KE_I) (KS_Ret (KE_CV knX12_leastIn (KA_1 KE_V (KA_1 KE_V (KA_1 KE_V (KA_1 KE_I (KA_1 KE_I KA_0))))))) KS_Skip) (KS_Seq (KS_If (KC_B KE_V KE_I) (KS_Ret KE_I) KS_Skip) (KS_Seq (KS_Set (KE_2 KE_V (KE_C knX12_width (KA_1 (KE_A (KE_F KE_V) KE_V) KA_0)))) (KS_Seq (KS_Set (KE_If (KC_B KE_V KE_I) (KE_CV knX12_leastIn (KA_1 KE_V (KA_1 KE_V (KA_1 KE_V (KA_1 KE_I (KA_1 (KE_2 KE_V KE_I) KA_0)))))) KE_I)) (KS_Seq (KS_If (KC_And (KC_B KE_V KE_I) (KC_B KE_V KE_I)) (KS_Set (KE_CV knX12_leastIn (KA_1 KE_V (KA_1 KE_V (KA_1 KE_V (KA_1 (KE_If (KC_B KE_V KE_I) KE_V KE_I) (KA_1 (KE_2 KE_V KE_I) KA_0))))))) KS_Skip) (KS_Ret (KE_If (KC_B KE_V KE_I) KE_V (KE_CV knX12_leastIn (KA_1 KE_V (KA_1 KE_V (KA_1 KE_V (KA_1 KE_V (KA_1 (KE_If (KC_B KE_I (KE_2 (KE_C knX12_width (KA_1 (KE_A (KE_F KE_V) KE_V) KA_0)) KE_I)) KE_I (KE_2 (KE_C knX12_width (KA_1 (KE_A (KE_F KE_V) KE_V) KA_0)) KE_I)) KA_0))))))))))))))))
theorem knX12_fits : KM Wn mX12_fits := KM_q kn_sX12_fits
theorem kn_sX12_isBeyond : KS Wn sX12_isBeyond := (KS_Ret (KE_B (KC_And (KC_B KE_V KE_I) (KC_Or (KC_B KE_V (KE_A (KE_F KE_V) (KE_C knX12_atMeasure (KA_1 KE_V (KA_1 KE_I KA_0))))) (KC_B KE_V (KE_A (KE_F KE_V) (KE_C knX12_atMeasure (KA_1 KE_V (KA_1 KE_I KA_0)))))))))
theorem knX12_isBeyond : KM Wn mX12_isBeyond := KM_q kn_sX12_isBeyond
theorem kn_cX12_law_3 : KC Wn cX12_law_3 := (KC_B KE_V (KE_CV knX12_many (KA_1 KE_V KA_0)))
theorem kn_bX12_law_3 : KS Wn bX12_law_3 := (KS_Set (KE_2 KE_V (KE_If (KC_E (KE_CV knX12_isBeyond (KA_1 KE_V (KA_1 KE_V (KA_1 (KE_A (KE_F KE_V) (KE_C knX12_atRow (KA_1 KE_V (KA_1 KE_V (KA_1 KE_V KA_0))))) KA_0))))) KE_I KE_I)))
theorem kn_uX12_law_3 : KS Wn uX12_law_3 := KS_Inc
theorem kn_cX12_law_2 : KC Wn cX12_law_2 := (KC_B KE_V (KE_CV knX12_rowsKept (KA_1 KE_V (KA_1 KE_V KA_0))))
theorem kn_bX12_law_2 : KS Wn bX12_law_2 := (KS_Seq (KS_Set KE_I) (KS_While kn_cX12_law_3 kn_bX12_law_3 kn_uX12_law_3))
theorem kn_uX12_law_2 : KS Wn uX12_law_2 := KS_Inc
theorem kn_cX12_law_1 : KC Wn cX12_law_1 := (KC_B KE_V (KE_CV knX12_archivesNow (KA_1 KE_V KA_0)))
theorem kn_bX12_law_1 : KS Wn bX12_law_1 := (KS_Seq (KS_If (KC_B (KE_A (KE_F KE_V) (KE_C knX12_own (KA_1 (KE_F KE_V) (KA_1 KE_V KA_0)))) KE_I) KS_Cnt KS_Skip) (KS_Seq (KS_Set KE_I) (KS_While kn_cX12_law_2 kn_bX12_law_2 kn_uX12_law_2)))
theorem kn_uX12_law_1 : KS Wn uX12_law_1 := KS_Inc
theorem kn_sX12_law : KS Wn sX12_law := (KS_Seq (KS_Set KE_I) (KS_Seq (KS_Seq (KS_Set KE_I) (KS_While kn_cX12_law_1 kn_bX12_law_1 kn_uX12_law_1)) (KS_Ret KE_V)))
theorem knX12_law : KM Wn mX12_law := KM_q kn_sX12_law
theorem kn_cX12_swapAll_1 : KC Wn cX12_swapAll_1 := (KC_B KE_V KE_I)
theorem kn_bX12_swapAll_1 : KS Wn bX12_swapAll_1 := (KS_Seq (KS_Set (KE_A (KE_F KE_V) (KE_2 (KE_2 KE_I (KE_F KE_V)) KE_V))) (KS_Seq (KS_Arr (fun _ => rfl) (KE_F KE_V) (KE_2 (KE_2 KE_I (KE_F KE_V)) KE_V) (KE_A (KE_F KE_V) KE_V)) (KS_Arr (fun _ => rfl) (KE_F KE_V) KE_V KE_V)))
theorem kn_uX12_swapAll_1 : KS Wn uX12_swapAll_1 := KS_Inc
theorem kn_sX12_swapAll : KS Wn sX12_swapAll := (KS_Seq (KS_Seq (KS_Set KE_I) (KS_While kn_cX12_swapAll_1 kn_bX12_swapAll_1 kn_uX12_swapAll_1)) KS_RetV)
theorem knX12_swapAll : KM Wn mX12_swapAll := KM_q kn_sX12_swapAll
theorem kn_sX12_undo : KS Wn sX12_undo := (KS_Seq (KS_If (KC_B (KE_F KE_V) KE_I) (KS_Ret KE_I) KS_Skip) (KS_Seq (KS_PutC rfl KE_V KE_I) (KS_Seq (KS_PutC rfl KE_V KE_I) (KS_Seq (KS_Do (KE_CV knX12_swapAll (KA_1 KE_V KA_0))) (KS_Ret KE_I)))))
theorem knX12_undo : KM Wn mX12_undo := KM_q kn_sX12_undo
theorem kn_sX12_redo : KS Wn sX12_redo := (KS_Seq (KS_If (KC_B (KE_F KE_V) KE_I) (KS_Ret KE_I) KS_Skip) (KS_Seq (KS_Do (KE_CV knX12_swapAll (KA_1 KE_V KA_0))) (KS_Seq (KS_PutC rfl KE_V KE_I) (KS_Seq (KS_PutC rfl KE_V KE_I) (KS_Ret KE_I)))))
theorem knX12_redo : KM Wn mX12_redo := KM_q kn_sX12_redo
theorem kn_cX12_image_1 : KC Wn cX12_image_1 := (KC_B KE_V KE_I)
theorem kn_bX12_image_1 : KS Wn bX12_image_1 := (KS_Arr (fun _ => rfl) (KE_F KE_V) (KE_2 (KE_2 KE_I KE_V) KE_V) (KE_A (KE_F KE_V) KE_V))
theorem kn_uX12_image_1 : KS Wn uX12_image_1 := KS_Inc
theorem kn_sX12_image : KS Wn sX12_image := (KS_Seq (KS_If (KC_Not (KC_E (KE_C knX12_isIn (KA_1 KE_V (KA_1 KE_I (KA_1 KE_I KA_0)))))) (KS_Ret KE_I) KS_Skip) (KS_Seq (KS_Seq (KS_Set KE_I) (KS_While kn_cX12_image_1 kn_bX12_image_1 kn_uX12_image_1)) (KS_Seq (KS_Arr (fun _ => rfl) (KE_F KE_V) KE_V KE_I) (KS_Ret (KE_1 (KE_A (KE_F KE_V) KE_I))))))
theorem knX12_image : KM Wn mX12_image := KM_q kn_sX12_image
theorem kn_cX12_back_1 : KC Wn cX12_back_1 := (KC_B KE_V KE_I)
theorem kn_bX12_back_1 : KS Wn bX12_back_1 := (KS_Arr (fun _ => rfl) (KE_F KE_V) KE_V (KE_A (KE_F KE_V) (KE_2 (KE_2 KE_I KE_V) KE_V)))
theorem kn_uX12_back_1 : KS Wn uX12_back_1 := KS_Inc
theorem kn_sX12_back : KS Wn sX12_back := (KS_Seq (KS_If (KC_Or (KC_Not (KC_E (KE_C knX12_isIn (KA_1 KE_V (KA_1 KE_I (KA_1 KE_I KA_0)))))) (KC_Not (KC_E (KE_A (KE_F KE_V) KE_V)))) (KS_Ret KE_I) KS_Skip) (KS_Seq (KS_Seq (KS_Set KE_I) (KS_While kn_cX12_back_1 kn_bX12_back_1 kn_uX12_back_1)) (KS_Seq (KS_Put rfl KE_V KE_I) (KS_Seq (KS_Put rfl KE_V KE_I) (KS_Ret (KE_1 (KE_A (KE_F KE_V) KE_I)))))))
theorem knX12_back : KM Wn mX12_back := KM_q kn_sX12_back
theorem kn_cX12_followed_1 : KC Wn cX12_followed_1 := (KC_B KE_V (KE_CV knX12_many (KA_1 KE_V KA_0)))
theorem kn_bX12_followed_1 : KS Wn bX12_followed_1 := (KS_If (KC_E (KE_CV knX12_isFollowed (KA_1 KE_V (KA_1 KE_V KA_0)))) (KS_Set (KE_2 KE_V (KE_2 KE_I KE_V))) KS_Skip)
theorem kn_uX12_followed_1 : KS Wn uX12_followed_1 := KS_Inc
theorem kn_sX12_followed : KS Wn sX12_followed := (KS_Seq (KS_Set KE_I) (KS_Seq (KS_Seq (KS_Set KE_I) (KS_While kn_cX12_followed_1 kn_bX12_followed_1 kn_uX12_followed_1)) (KS_Ret KE_V)))
theorem knX12_followed : KM Wn mX12_followed := KM_q kn_sX12_followed
theorem kn_sX12_about : KS Wn sX12_about := (KS_Sw KE_V (KF_1 (KS_Ret (KE_A (KE_F KE_V) (KE_F KE_V))) (KF_1 (KS_Ret (KE_CV knX12_many (KA_1 KE_V KA_0))) (KF_1 (KS_Ret (KE_CV knX12_archivesNow (KA_1 KE_V KA_0))) (KF_1 (KS_Ret (KE_A (KE_F KE_V) (KE_F KE_V))) (KF_1 (KS_Ret (KE_CV knX12_followed (KA_1 KE_V KA_0))) (KF_1 (KS_Ret (KE_1 (KE_A (KE_F KE_V) KE_I))) (KF_1 (KS_Ret (KE_1 (KE_A (KE_F KE_V) KE_I))) (KF_1 (KS_Ret (KE_1 (KE_A (KE_F KE_V) KE_I))) (KF_1 (KS_Ret (KE_A (KE_F KE_V) (KE_F KE_V))) (KF_1 (KS_Ret (KE_F KE_V)) (KF_1 (KS_Ret (KE_F KE_V)) (KF_1 (KS_Ret (KE_F KE_V)) (KF_0 (KS_Ret KE_I)))))))))))))))
theorem knX12_about : KM Wn mX12_about := KM_q kn_sX12_about
