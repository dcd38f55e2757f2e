theorem qz552 : Cond.code yX11_feed cX11_feed 6 (some .int) ∈ TB := tb_of (List.mem_append_right _ (List.mem_append_right _ (List.mem_append_right _ (List.mem_append_left _ (List.mem_of_getElem? (i := 72) rfl))))) (by decide +kernel)
theorem qz1 : Cond.initialized RX11 ∈ TB := tb_of (List.mem_append_right _ (List.mem_append_left _ (List.mem_of_getElem? (i := 1) rfl))) (by decide +kernel)
theorem qz549 : Cond.methodLink RL 19 yX11_feed ∈ TB := tb_of (List.mem_append_right _ (List.mem_append_right _ (List.mem_append_right _ (List.mem_append_left _ (List.mem_of_getElem? (i := 69) rfl))))) (by decide +kernel)
theorem qz550 : Cond.instanceMethod yX11_feed ∈ TB := tb_of (List.mem_append_right _ (List.mem_append_right _ (List.mem_append_right _ (List.mem_append_left _ (List.mem_of_getElem? (i := 70) rfl))))) (by decide +kernel)
theorem qz551 : Cond.selects RX11 yX11_feed yX11_feed ∈ TB := tb_of (List.mem_append_right _ (List.mem_append_right _ (List.mem_append_right _ (List.mem_append_left _ (List.mem_of_getElem? (i := 71) rfl))))) (by decide +kernel)
theorem qz1428 : Cond.code yX12_feed cX12_feed 6 (some .int) ∈ TB := tb_of (List.mem_append_right _ (List.mem_append_right _ (List.mem_append_right _ (List.mem_append_right _ (List.mem_append_right _ (List.mem_append_right _ (List.mem_append_left _ (List.mem_of_getElem? (i := 228) rfl)))))))) (by decide +kernel)
theorem qz17 : Cond.initialized RX12 ∈ TB := tb_of (List.mem_append_right _ (List.mem_append_left _ (List.mem_of_getElem? (i := 17) rfl))) (by decide +kernel)
theorem qz1425 : Cond.methodLink RL 23 yX12_feed ∈ TB := tb_of (List.mem_append_right _ (List.mem_append_right _ (List.mem_append_right _ (List.mem_append_right _ (List.mem_append_right _ (List.mem_append_right _ (List.mem_append_left _ (List.mem_of_getElem? (i := 225) rfl)))))))) (by decide +kernel)
theorem qz1426 : Cond.instanceMethod yX12_feed ∈ TB := tb_of (List.mem_append_right _ (List.mem_append_right _ (List.mem_append_right _ (List.mem_append_right _ (List.mem_append_right _ (List.mem_append_right _ (List.mem_append_left _ (List.mem_of_getElem? (i := 226) rfl)))))))) (by decide +kernel)
theorem qz1427 : Cond.selects RX12 yX12_feed yX12_feed ∈ TB := tb_of (List.mem_append_right _ (List.mem_append_right _ (List.mem_append_right _ (List.mem_append_right _ (List.mem_append_right _ (List.mem_append_right _ (List.mem_append_left _ (List.mem_of_getElem? (i := 227) rfl)))))))) (by decide +kernel)
theorem qz560 : Cond.code yX11_end cX11_end 2 (some .boolean) ∈ TB := tb_of (List.mem_append_right _ (List.mem_append_right _ (List.mem_append_right _ (List.mem_append_left _ (List.mem_of_getElem? (i := 80) rfl))))) (by decide +kernel)
theorem qz557 : Cond.methodLink RL 24 yX11_end ∈ TB := tb_of (List.mem_append_right _ (List.mem_append_right _ (List.mem_append_right _ (List.mem_append_left _ (List.mem_of_getElem? (i := 77) rfl))))) (by decide +kernel)
theorem qz558 : Cond.instanceMethod yX11_end ∈ TB := tb_of (List.mem_append_right _ (List.mem_append_right _ (List.mem_append_right _ (List.mem_append_left _ (List.mem_of_getElem? (i := 78) rfl))))) (by decide +kernel)
theorem qz559 : Cond.selects RX11 yX11_end yX11_end ∈ TB := tb_of (List.mem_append_right _ (List.mem_append_right _ (List.mem_append_right _ (List.mem_append_left _ (List.mem_of_getElem? (i := 79) rfl))))) (by decide +kernel)
theorem qz1437 : Cond.code yX12_end cX12_end 2 (some .boolean) ∈ TB := tb_of (List.mem_append_right _ (List.mem_append_right _ (List.mem_append_right _ (List.mem_append_right _ (List.mem_append_right _ (List.mem_append_right _ (List.mem_append_left _ (List.mem_of_getElem? (i := 237) rfl)))))))) (by decide +kernel)
theorem qz1434 : Cond.methodLink RL 28 yX12_end ∈ TB := tb_of (List.mem_append_right _ (List.mem_append_right _ (List.mem_append_right _ (List.mem_append_right _ (List.mem_append_right _ (List.mem_append_right _ (List.mem_append_left _ (List.mem_of_getElem? (i := 234) rfl)))))))) (by decide +kernel)
theorem qz1435 : Cond.instanceMethod yX12_end ∈ TB := tb_of (List.mem_append_right _ (List.mem_append_right _ (List.mem_append_right _ (List.mem_append_right _ (List.mem_append_right _ (List.mem_append_right _ (List.mem_append_left _ (List.mem_of_getElem? (i := 235) rfl)))))))) (by decide +kernel)
theorem qz1436 : Cond.selects RX12 yX12_end yX12_end ∈ TB := tb_of (List.mem_append_right _ (List.mem_append_right _ (List.mem_append_right _ (List.mem_append_right _ (List.mem_append_right _ (List.mem_append_right _ (List.mem_append_left _ (List.mem_of_getElem? (i := 236) rfl)))))))) (by decide +kernel)
theorem qz564 : Cond.code yX11_house cX11_house 2 (some .int) ∈ TB := tb_of (List.mem_append_right _ (List.mem_append_right _ (List.mem_append_right _ (List.mem_append_left _ (List.mem_of_getElem? (i := 84) rfl))))) (by decide +kernel)
theorem qz561 : Cond.methodLink RL 29 yX11_house ∈ TB := tb_of (List.mem_append_right _ (List.mem_append_right _ (List.mem_append_right _ (List.mem_append_left _ (List.mem_of_getElem? (i := 81) rfl))))) (by decide +kernel)
theorem qz562 : Cond.instanceMethod yX11_house ∈ TB := tb_of (List.mem_append_right _ (List.mem_append_right _ (List.mem_append_right _ (List.mem_append_left _ (List.mem_of_getElem? (i := 82) rfl))))) (by decide +kernel)
theorem qz563 : Cond.selects RX11 yX11_house yX11_house ∈ TB := tb_of (List.mem_append_right _ (List.mem_append_right _ (List.mem_append_right _ (List.mem_append_left _ (List.mem_of_getElem? (i := 83) rfl))))) (by decide +kernel)
theorem qz1620 : Cond.code yX12_house cX12_house 2 (some .int) ∈ TB := tb_of (List.mem_append_right _ (List.mem_append_right _ (List.mem_append_right _ (List.mem_append_right _ (List.mem_append_right _ (List.mem_append_right _ (List.mem_append_right _ (List.mem_append_left _ (List.mem_of_getElem? (i := 180) rfl))))))))) (by decide +kernel)
theorem qz1617 : Cond.methodLink RL 33 yX12_house ∈ TB := tb_of (List.mem_append_right _ (List.mem_append_right _ (List.mem_append_right _ (List.mem_append_right _ (List.mem_append_right _ (List.mem_append_right _ (List.mem_append_right _ (List.mem_append_left _ (List.mem_of_getElem? (i := 177) rfl))))))))) (by decide +kernel)
theorem qz1618 : Cond.instanceMethod yX12_house ∈ TB := tb_of (List.mem_append_right _ (List.mem_append_right _ (List.mem_append_right _ (List.mem_append_right _ (List.mem_append_right _ (List.mem_append_right _ (List.mem_append_right _ (List.mem_append_left _ (List.mem_of_getElem? (i := 178) rfl))))))))) (by decide +kernel)
theorem qz1619 : Cond.selects RX12 yX12_house yX12_house ∈ TB := tb_of (List.mem_append_right _ (List.mem_append_right _ (List.mem_append_right _ (List.mem_append_right _ (List.mem_append_right _ (List.mem_append_right _ (List.mem_append_right _ (List.mem_append_left _ (List.mem_of_getElem? (i := 179) rfl))))))))) (by decide +kernel)
theorem qz738 : Cond.code yX11_fault cX11_fault 1 (some .int) ∈ TB := tb_of (List.mem_append_right _ (List.mem_append_right _ (List.mem_append_right _ (List.mem_append_right _ (List.mem_append_left _ (List.mem_of_getElem? (i := 18) rfl)))))) (by decide +kernel)
theorem qz735 : Cond.methodLink RL 34 yX11_fault ∈ TB := tb_of (List.mem_append_right _ (List.mem_append_right _ (List.mem_append_right _ (List.mem_append_right _ (List.mem_append_left _ (List.mem_of_getElem? (i := 15) rfl)))))) (by decide +kernel)
theorem qz736 : Cond.instanceMethod yX11_fault ∈ TB := tb_of (List.mem_append_right _ (List.mem_append_right _ (List.mem_append_right _ (List.mem_append_right _ (List.mem_append_left _ (List.mem_of_getElem? (i := 16) rfl)))))) (by decide +kernel)
theorem qz737 : Cond.selects RX11 yX11_fault yX11_fault ∈ TB := tb_of (List.mem_append_right _ (List.mem_append_right _ (List.mem_append_right _ (List.mem_append_right _ (List.mem_append_left _ (List.mem_of_getElem? (i := 17) rfl)))))) (by decide +kernel)
theorem qz1696 : Cond.code yX12_fault cX12_fault 1 (some .int) ∈ TB := tb_of (List.mem_append_right _ (List.mem_append_right _ (List.mem_append_right _ (List.mem_append_right _ (List.mem_append_right _ (List.mem_append_right _ (List.mem_append_right _ (List.mem_append_right _ (List.mem_append_left _ (List.mem_of_getElem? (i := 16) rfl)))))))))) (by decide +kernel)
theorem qz1693 : Cond.methodLink RL 37 yX12_fault ∈ TB := tb_of (List.mem_append_right _ (List.mem_append_right _ (List.mem_append_right _ (List.mem_append_right _ (List.mem_append_right _ (List.mem_append_right _ (List.mem_append_right _ (List.mem_append_right _ (List.mem_append_left _ (List.mem_of_getElem? (i := 13) rfl)))))))))) (by decide +kernel)
theorem qz1694 : Cond.instanceMethod yX12_fault ∈ TB := tb_of (List.mem_append_right _ (List.mem_append_right _ (List.mem_append_right _ (List.mem_append_right _ (List.mem_append_right _ (List.mem_append_right _ (List.mem_append_right _ (List.mem_append_right _ (List.mem_append_left _ (List.mem_of_getElem? (i := 14) rfl)))))))))) (by decide +kernel)
theorem qz1695 : Cond.selects RX12 yX12_fault yX12_fault ∈ TB := tb_of (List.mem_append_right _ (List.mem_append_right _ (List.mem_append_right _ (List.mem_append_right _ (List.mem_append_right _ (List.mem_append_right _ (List.mem_append_right _ (List.mem_append_right _ (List.mem_append_left _ (List.mem_of_getElem? (i := 15) rfl)))))))))) (by decide +kernel)
theorem qz742 : Cond.code yX11_person cX11_person 3 (some .int) ∈ TB := tb_of (List.mem_append_right _ (List.mem_append_right _ (List.mem_append_right _ (List.mem_append_right _ (List.mem_append_left _ (List.mem_of_getElem? (i := 22) rfl)))))) (by decide +kernel)
theorem qz739 : Cond.methodLink RL 44 yX11_person ∈ TB := tb_of (List.mem_append_right _ (List.mem_append_right _ (List.mem_append_right _ (List.mem_append_right _ (List.mem_append_left _ (List.mem_of_getElem? (i := 19) rfl)))))) (by decide +kernel)
theorem qz740 : Cond.instanceMethod yX11_person ∈ TB := tb_of (List.mem_append_right _ (List.mem_append_right _ (List.mem_append_right _ (List.mem_append_right _ (List.mem_append_left _ (List.mem_of_getElem? (i := 20) rfl)))))) (by decide +kernel)
theorem qz741 : Cond.selects RX11 yX11_person yX11_person ∈ TB := tb_of (List.mem_append_right _ (List.mem_append_right _ (List.mem_append_right _ (List.mem_append_right _ (List.mem_append_left _ (List.mem_of_getElem? (i := 21) rfl)))))) (by decide +kernel)
theorem qz1712 : Cond.code yX12_person cX12_person 3 (some .int) ∈ TB := tb_of (List.mem_append_right _ (List.mem_append_right _ (List.mem_append_right _ (List.mem_append_right _ (List.mem_append_right _ (List.mem_append_right _ (List.mem_append_right _ (List.mem_append_right _ (List.mem_append_left _ (List.mem_of_getElem? (i := 32) rfl)))))))))) (by decide +kernel)
theorem qz1709 : Cond.methodLink RL 47 yX12_person ∈ TB := tb_of (List.mem_append_right _ (List.mem_append_right _ (List.mem_append_right _ (List.mem_append_right _ (List.mem_append_right _ (List.mem_append_right _ (List.mem_append_right _ (List.mem_append_right _ (List.mem_append_left _ (List.mem_of_getElem? (i := 29) rfl)))))))))) (by decide +kernel)
theorem qz1710 : Cond.instanceMethod yX12_person ∈ TB := tb_of (List.mem_append_right _ (List.mem_append_right _ (List.mem_append_right _ (List.mem_append_right _ (List.mem_append_right _ (List.mem_append_right _ (List.mem_append_right _ (List.mem_append_right _ (List.mem_append_left _ (List.mem_of_getElem? (i := 30) rfl)))))))))) (by decide +kernel)
theorem qz1711 : Cond.selects RX12 yX12_person yX12_person ∈ TB := tb_of (List.mem_append_right _ (List.mem_append_right _ (List.mem_append_right _ (List.mem_append_right _ (List.mem_append_right _ (List.mem_append_right _ (List.mem_append_right _ (List.mem_append_right _ (List.mem_append_left _ (List.mem_of_getElem? (i := 31) rfl)))))))))) (by decide +kernel)
theorem qz754 : Cond.code yX11_way cX11_way 3 (some .int) ∈ TB := tb_of (List.mem_append_right _ (List.mem_append_right _ (List.mem_append_right _ (List.mem_append_right _ (List.mem_append_left _ (List.mem_of_getElem? (i := 34) rfl)))))) (by decide +kernel)
theorem qz751 : Cond.methodLink RL 48 yX11_way ∈ TB := tb_of (List.mem_append_right _ (List.mem_append_right _ (List.mem_append_right _ (List.mem_append_right _ (List.mem_append_left _ (List.mem_of_getElem? (i := 31) rfl)))))) (by decide +kernel)
theorem qz752 : Cond.instanceMethod yX11_way ∈ TB := tb_of (List.mem_append_right _ (List.mem_append_right _ (List.mem_append_right _ (List.mem_append_right _ (List.mem_append_left _ (List.mem_of_getElem? (i := 32) rfl)))))) (by decide +kernel)
theorem qz753 : Cond.selects RX11 yX11_way yX11_way ∈ TB := tb_of (List.mem_append_right _ (List.mem_append_right _ (List.mem_append_right _ (List.mem_append_right _ (List.mem_append_left _ (List.mem_of_getElem? (i := 33) rfl)))))) (by decide +kernel)
theorem qz1720 : Cond.code yX12_way cX12_way 6 (some .int) ∈ TB := tb_of (List.mem_append_right _ (List.mem_append_right _ (List.mem_append_right _ (List.mem_append_right _ (List.mem_append_right _ (List.mem_append_right _ (List.mem_append_right _ (List.mem_append_right _ (List.mem_append_left _ (List.mem_of_getElem? (i := 40) rfl)))))))))) (by decide +kernel)
theorem qz1717 : Cond.methodLink RL 51 yX12_way ∈ TB := tb_of (List.mem_append_right _ (List.mem_append_right _ (List.mem_append_right _ (List.mem_append_right _ (List.mem_append_right _ (List.mem_append_right _ (List.mem_append_right _ (List.mem_append_right _ (List.mem_append_left _ (List.mem_of_getElem? (i := 37) rfl)))))))))) (by decide +kernel)
theorem qz1718 : Cond.instanceMethod yX12_way ∈ TB := tb_of (List.mem_append_right _ (List.mem_append_right _ (List.mem_append_right _ (List.mem_append_right _ (List.mem_append_right _ (List.mem_append_right _ (List.mem_append_right _ (List.mem_append_right _ (List.mem_append_left _ (List.mem_of_getElem? (i := 38) rfl)))))))))) (by decide +kernel)
theorem qz1719 : Cond.selects RX12 yX12_way yX12_way ∈ TB := tb_of (List.mem_append_right _ (List.mem_append_right _ (List.mem_append_right _ (List.mem_append_right _ (List.mem_append_right _ (List.mem_append_right _ (List.mem_append_right _ (List.mem_append_right _ (List.mem_append_left _ (List.mem_of_getElem? (i := 39) rfl)))))))))) (by decide +kernel)
theorem qz770 : Cond.code yX11_frog cX11_frog 2 (some .int) ∈ TB := tb_of (List.mem_append_right _ (List.mem_append_right _ (List.mem_append_right _ (List.mem_append_right _ (List.mem_append_left _ (List.mem_of_getElem? (i := 50) rfl)))))) (by decide +kernel)
theorem qz767 : Cond.methodLink RL 52 yX11_frog ∈ TB := tb_of (List.mem_append_right _ (List.mem_append_right _ (List.mem_append_right _ (List.mem_append_right _ (List.mem_append_left _ (List.mem_of_getElem? (i := 47) rfl)))))) (by decide +kernel)
theorem qz768 : Cond.instanceMethod yX11_frog ∈ TB := tb_of (List.mem_append_right _ (List.mem_append_right _ (List.mem_append_right _ (List.mem_append_right _ (List.mem_append_left _ (List.mem_of_getElem? (i := 48) rfl)))))) (by decide +kernel)
theorem qz769 : Cond.selects RX11 yX11_frog yX11_frog ∈ TB := tb_of (List.mem_append_right _ (List.mem_append_right _ (List.mem_append_right _ (List.mem_append_right _ (List.mem_append_left _ (List.mem_of_getElem? (i := 49) rfl)))))) (by decide +kernel)
theorem qz1728 : Cond.code yX12_frog cX12_frog 2 (some .int) ∈ TB := tb_of (List.mem_append_right _ (List.mem_append_right _ (List.mem_append_right _ (List.mem_append_right _ (List.mem_append_right _ (List.mem_append_right _ (List.mem_append_right _ (List.mem_append_right _ (List.mem_append_left _ (List.mem_of_getElem? (i := 48) rfl)))))))))) (by decide +kernel)
theorem qz1725 : Cond.methodLink RL 56 yX12_frog ∈ TB := tb_of (List.mem_append_right _ (List.mem_append_right _ (List.mem_append_right _ (List.mem_append_right _ (List.mem_append_right _ (List.mem_append_right _ (List.mem_append_right _ (List.mem_append_right _ (List.mem_append_left _ (List.mem_of_getElem? (i := 45) rfl)))))))))) (by decide +kernel)
theorem qz1726 : Cond.instanceMethod yX12_frog ∈ TB := tb_of (List.mem_append_right _ (List.mem_append_right _ (List.mem_append_right _ (List.mem_append_right _ (List.mem_append_right _ (List.mem_append_right _ (List.mem_append_right _ (List.mem_append_right _ (List.mem_append_left _ (List.mem_of_getElem? (i := 46) rfl)))))))))) (by decide +kernel)
theorem qz1727 : Cond.selects RX12 yX12_frog yX12_frog ∈ TB := tb_of (List.mem_append_right _ (List.mem_append_right _ (List.mem_append_right _ (List.mem_append_right _ (List.mem_append_right _ (List.mem_append_right _ (List.mem_append_right _ (List.mem_append_right _ (List.mem_append_left _ (List.mem_of_getElem? (i := 47) rfl)))))))))) (by decide +kernel)
theorem qz778 : Cond.code yX11_now cX11_now 2 (some .int) ∈ TB := tb_of (List.mem_append_right _ (List.mem_append_right _ (List.mem_append_right _ (List.mem_append_right _ (List.mem_append_left _ (List.mem_of_getElem? (i := 58) rfl)))))) (by decide +kernel)
theorem qz775 : Cond.methodLink RL 57 yX11_now ∈ TB := tb_of (List.mem_append_right _ (List.mem_append_right _ (List.mem_append_right _ (List.mem_append_right _ (List.mem_append_left _ (List.mem_of_getElem? (i := 55) rfl)))))) (by decide +kernel)
theorem qz776 : Cond.instanceMethod yX11_now ∈ TB := tb_of (List.mem_append_right _ (List.mem_append_right _ (List.mem_append_right _ (List.mem_append_right _ (List.mem_append_left _ (List.mem_of_getElem? (i := 56) rfl)))))) (by decide +kernel)
theorem qz777 : Cond.selects RX11 yX11_now yX11_now ∈ TB := tb_of (List.mem_append_right _ (List.mem_append_right _ (List.mem_append_right _ (List.mem_append_right _ (List.mem_append_left _ (List.mem_of_getElem? (i := 57) rfl)))))) (by decide +kernel)
theorem qz1732 : Cond.code yX12_now cX12_now 6 (some .int) ∈ TB := tb_of (List.mem_append_right _ (List.mem_append_right _ (List.mem_append_right _ (List.mem_append_right _ (List.mem_append_right _ (List.mem_append_right _ (List.mem_append_right _ (List.mem_append_right _ (List.mem_append_left _ (List.mem_of_getElem? (i := 52) rfl)))))))))) (by decide +kernel)
theorem qz1729 : Cond.methodLink RL 60 yX12_now ∈ TB := tb_of (List.mem_append_right _ (List.mem_append_right _ (List.mem_append_right _ (List.mem_append_right _ (List.mem_append_right _ (List.mem_append_right _ (List.mem_append_right _ (List.mem_append_right _ (List.mem_append_left _ (List.mem_of_getElem? (i := 49) rfl)))))))))) (by decide +kernel)
theorem qz1730 : Cond.instanceMethod yX12_now ∈ TB := tb_of (List.mem_append_right _ (List.mem_append_right _ (List.mem_append_right _ (List.mem_append_right _ (List.mem_append_right _ (List.mem_append_right _ (List.mem_append_right _ (List.mem_append_right _ (List.mem_append_left _ (List.mem_of_getElem? (i := 50) rfl)))))))))) (by decide +kernel)
theorem qz1731 : Cond.selects RX12 yX12_now yX12_now ∈ TB := tb_of (List.mem_append_right _ (List.mem_append_right _ (List.mem_append_right _ (List.mem_append_right _ (List.mem_append_right _ (List.mem_append_right _ (List.mem_append_right _ (List.mem_append_right _ (List.mem_append_left _ (List.mem_of_getElem? (i := 51) rfl)))))))))) (by decide +kernel)
theorem qz858 : Cond.code yX11_whyGo cX11_whyGo 3 (some .int) ∈ TB := tb_of (List.mem_append_right _ (List.mem_append_right _ (List.mem_append_right _ (List.mem_append_right _ (List.mem_append_left _ (List.mem_of_getElem? (i := 138) rfl)))))) (by decide +kernel)
theorem qz855 : Cond.methodLink RL 61 yX11_whyGo ∈ TB := tb_of (List.mem_append_right _ (List.mem_append_right _ (List.mem_append_right _ (List.mem_append_right _ (List.mem_append_left _ (List.mem_of_getElem? (i := 135) rfl)))))) (by decide +kernel)
theorem qz856 : Cond.instanceMethod yX11_whyGo ∈ TB := tb_of (List.mem_append_right _ (List.mem_append_right _ (List.mem_append_right _ (List.mem_append_right _ (List.mem_append_left _ (List.mem_of_getElem? (i := 136) rfl)))))) (by decide +kernel)
theorem qz857 : Cond.selects RX11 yX11_whyGo yX11_whyGo ∈ TB := tb_of (List.mem_append_right _ (List.mem_append_right _ (List.mem_append_right _ (List.mem_append_right _ (List.mem_append_left _ (List.mem_of_getElem? (i := 137) rfl)))))) (by decide +kernel)
theorem qz1771 : Cond.code yX12_whyGo cX12_whyGo 3 (some .int) ∈ TB := tb_of (List.mem_append_right _ (List.mem_append_right _ (List.mem_append_right _ (List.mem_append_right _ (List.mem_append_right _ (List.mem_append_right _ (List.mem_append_right _ (List.mem_append_right _ (List.mem_append_left _ (List.mem_of_getElem? (i := 91) rfl)))))))))) (by decide +kernel)
theorem qz1768 : Cond.methodLink RL 64 yX12_whyGo ∈ TB := tb_of (List.mem_append_right _ (List.mem_append_right _ (List.mem_append_right _ (List.mem_append_right _ (List.mem_append_right _ (List.mem_append_right _ (List.mem_append_right _ (List.mem_append_right _ (List.mem_append_left _ (List.mem_of_getElem? (i := 88) rfl)))))))))) (by decide +kernel)
theorem qz1769 : Cond.instanceMethod yX12_whyGo ∈ TB := tb_of (List.mem_append_right _ (List.mem_append_right _ (List.mem_append_right _ (List.mem_append_right _ (List.mem_append_right _ (List.mem_append_right _ (List.mem_append_right _ (List.mem_append_right _ (List.mem_append_left _ (List.mem_of_getElem? (i := 89) rfl)))))))))) (by decide +kernel)
theorem qz1770 : Cond.selects RX12 yX12_whyGo yX12_whyGo ∈ TB := tb_of (List.mem_append_right _ (List.mem_append_right _ (List.mem_append_right _ (List.mem_append_right _ (List.mem_append_right _ (List.mem_append_right _ (List.mem_append_right _ (List.mem_append_right _ (List.mem_append_left _ (List.mem_of_getElem? (i := 90) rfl)))))))))) (by decide +kernel)
theorem qz876 : Cond.code yX11_go cX11_go 4 (some .int) ∈ TB := tb_of (List.mem_append_right _ (List.mem_append_right _ (List.mem_append_right _ (List.mem_append_right _ (List.mem_append_left _ (List.mem_of_getElem? (i := 156) rfl)))))) (by decide +kernel)
theorem qz873 : Cond.methodLink RL 65 yX11_go ∈ TB := tb_of (List.mem_append_right _ (List.mem_append_right _ (List.mem_append_right _ (List.mem_append_right _ (List.mem_append_left _ (List.mem_of_getElem? (i := 153) rfl)))))) (by decide +kernel)
theorem qz874 : Cond.instanceMethod yX11_go ∈ TB := tb_of (List.mem_append_right _ (List.mem_append_right _ (List.mem_append_right _ (List.mem_append_right _ (List.mem_append_left _ (List.mem_of_getElem? (i := 154) rfl)))))) (by decide +kernel)
theorem qz875 : Cond.selects RX11 yX11_go yX11_go ∈ TB := tb_of (List.mem_append_right _ (List.mem_append_right _ (List.mem_append_right _ (List.mem_append_right _ (List.mem_append_left _ (List.mem_of_getElem? (i := 155) rfl)))))) (by decide +kernel)
theorem qz1783 : Cond.code yX12_go cX12_go 4 (some .int) ∈ TB := tb_of (List.mem_append_right _ (List.mem_append_right _ (List.mem_append_right _ (List.mem_append_right _ (List.mem_append_right _ (List.mem_append_right _ (List.mem_append_right _ (List.mem_append_right _ (List.mem_append_left _ (List.mem_of_getElem? (i := 103) rfl)))))))))) (by decide +kernel)
theorem qz1780 : Cond.methodLink RL 68 yX12_go ∈ TB := tb_of (List.mem_append_right _ (List.mem_append_right _ (List.mem_append_right _ (List.mem_append_right _ (List.mem_append_right _ (List.mem_append_right _ (List.mem_append_right _ (List.mem_append_right _ (List.mem_append_left _ (List.mem_of_getElem? (i := 100) rfl)))))))))) (by decide +kernel)
theorem qz1781 : Cond.instanceMethod yX12_go ∈ TB := tb_of (List.mem_append_right _ (List.mem_append_right _ (List.mem_append_right _ (List.mem_append_right _ (List.mem_append_right _ (List.mem_append_right _ (List.mem_append_right _ (List.mem_append_right _ (List.mem_append_left _ (List.mem_of_getElem? (i := 101) rfl)))))))))) (by decide +kernel)
theorem qz1782 : Cond.selects RX12 yX12_go yX12_go ∈ TB := tb_of (List.mem_append_right _ (List.mem_append_right _ (List.mem_append_right _ (List.mem_append_right _ (List.mem_append_right _ (List.mem_append_right _ (List.mem_append_right _ (List.mem_append_right _ (List.mem_append_left _ (List.mem_of_getElem? (i := 102) rfl)))))))))) (by decide +kernel)
theorem qz891 : Cond.code yX11_act cX11_act 4 (some .int) ∈ TB := tb_of (List.mem_append_right _ (List.mem_append_right _ (List.mem_append_right _ (List.mem_append_right _ (List.mem_append_left _ (List.mem_of_getElem? (i := 171) rfl)))))) (by decide +kernel)
theorem qz888 : Cond.methodLink RL 69 yX11_act ∈ TB := tb_of (List.mem_append_right _ (List.mem_append_right _ (List.mem_append_right _ (List.mem_append_right _ (List.mem_append_left _ (List.mem_of_getElem? (i := 168) rfl)))))) (by decide +kernel)
theorem qz889 : Cond.instanceMethod yX11_act ∈ TB := tb_of (List.mem_append_right _ (List.mem_append_right _ (List.mem_append_right _ (List.mem_append_right _ (List.mem_append_left _ (List.mem_of_getElem? (i := 169) rfl)))))) (by decide +kernel)
theorem qz890 : Cond.selects RX11 yX11_act yX11_act ∈ TB := tb_of (List.mem_append_right _ (List.mem_append_right _ (List.mem_append_right _ (List.mem_append_right _ (List.mem_append_left _ (List.mem_of_getElem? (i := 170) rfl)))))) (by decide +kernel)
theorem qz1795 : Cond.code yX12_act cX12_act 4 (some .int) ∈ TB := tb_of (List.mem_append_right _ (List.mem_append_right _ (List.mem_append_right _ (List.mem_append_right _ (List.mem_append_right _ (List.mem_append_right _ (List.mem_append_right _ (List.mem_append_right _ (List.mem_append_left _ (List.mem_of_getElem? (i := 115) rfl)))))))))) (by decide +kernel)
theorem qz1792 : Cond.methodLink RL 72 yX12_act ∈ TB := tb_of (List.mem_append_right _ (List.mem_append_right _ (List.mem_append_right _ (List.mem_append_right _ (List.mem_append_right _ (List.mem_append_right _ (List.mem_append_right _ (List.mem_append_right _ (List.mem_append_left _ (List.mem_of_getElem? (i := 112) rfl)))))))))) (by decide +kernel)
theorem qz1793 : Cond.instanceMethod yX12_act ∈ TB := tb_of (List.mem_append_right _ (List.mem_append_right _ (List.mem_append_right _ (List.mem_append_right _ (List.mem_append_right _ (List.mem_append_right _ (List.mem_append_right _ (List.mem_append_right _ (List.mem_append_left _ (List.mem_of_getElem? (i := 113) rfl)))))))))) (by decide +kernel)
theorem qz1794 : Cond.selects RX12 yX12_act yX12_act ∈ TB := tb_of (List.mem_append_right _ (List.mem_append_right _ (List.mem_append_right _ (List.mem_append_right _ (List.mem_append_right _ (List.mem_append_right _ (List.mem_append_right _ (List.mem_append_right _ (List.mem_append_left _ (List.mem_of_getElem? (i := 114) rfl)))))))))) (by decide +kernel)
theorem qz908 : Cond.code yX11_say cX11_say 4 (some .int) ∈ TB := tb_of (List.mem_append_right _ (List.mem_append_right _ (List.mem_append_right _ (List.mem_append_right _ (List.mem_append_left _ (List.mem_of_getElem? (i := 188) rfl)))))) (by decide +kernel)
theorem qz905 : Cond.methodLink RL 73 yX11_say ∈ TB := tb_of (List.mem_append_right _ (List.mem_append_right _ (List.mem_append_right _ (List.mem_append_right _ (List.mem_append_left _ (List.mem_of_getElem? (i := 185) rfl)))))) (by decide +kernel)
theorem qz906 : Cond.instanceMethod yX11_say ∈ TB := tb_of (List.mem_append_right _ (List.mem_append_right _ (List.mem_append_right _ (List.mem_append_right _ (List.mem_append_left _ (List.mem_of_getElem? (i := 186) rfl)))))) (by decide +kernel)
theorem qz907 : Cond.selects RX11 yX11_say yX11_say ∈ TB := tb_of (List.mem_append_right _ (List.mem_append_right _ (List.mem_append_right _ (List.mem_append_right _ (List.mem_append_left _ (List.mem_of_getElem? (i := 187) rfl)))))) (by decide +kernel)
theorem qz1811 : Cond.code yX12_say cX12_say 4 (some .int) ∈ TB := tb_of (List.mem_append_right _ (List.mem_append_right _ (List.mem_append_right _ (List.mem_append_right _ (List.mem_append_right _ (List.mem_append_right _ (List.mem_append_right _ (List.mem_append_right _ (List.mem_append_left _ (List.mem_of_getElem? (i := 131) rfl)))))))))) (by decide +kernel)
theorem qz1808 : Cond.methodLink RL 76 yX12_say ∈ TB := tb_of (List.mem_append_right _ (List.mem_append_right _ (List.mem_append_right _ (List.mem_append_right _ (List.mem_append_right _ (List.mem_append_right _ (List.mem_append_right _ (List.mem_append_right _ (List.mem_append_left _ (List.mem_of_getElem? (i := 128) rfl)))))))))) (by decide +kernel)
theorem qz1809 : Cond.instanceMethod yX12_say ∈ TB := tb_of (List.mem_append_right _ (List.mem_append_right _ (List.mem_append_right _ (List.mem_append_right _ (List.mem_append_right _ (List.mem_append_right _ (List.mem_append_right _ (List.mem_append_right _ (List.mem_append_left _ (List.mem_of_getElem? (i := 129) rfl)))))))))) (by decide +kernel)
theorem qz1810 : Cond.selects RX12 yX12_say yX12_say ∈ TB := tb_of (List.mem_append_right _ (List.mem_append_right _ (List.mem_append_right _ (List.mem_append_right _ (List.mem_append_right _ (List.mem_append_right _ (List.mem_append_right _ (List.mem_append_right _ (List.mem_append_left _ (List.mem_of_getElem? (i := 130) rfl)))))))))) (by decide +kernel)
theorem qz926 : Cond.code yX11_hours cX11_hours 2 (some .int) ∈ TB := tb_of (List.mem_append_right _ (List.mem_append_right _ (List.mem_append_right _ (List.mem_append_right _ (List.mem_append_left _ (List.mem_of_getElem? (i := 206) rfl)))))) (by decide +kernel)
theorem qz923 : Cond.methodLink RL 77 yX11_hours ∈ TB := tb_of (List.mem_append_right _ (List.mem_append_right _ (List.mem_append_right _ (List.mem_append_right _ (List.mem_append_left _ (List.mem_of_getElem? (i := 203) rfl)))))) (by decide +kernel)
theorem qz924 : Cond.instanceMethod yX11_hours ∈ TB := tb_of (List.mem_append_right _ (List.mem_append_right _ (List.mem_append_right _ (List.mem_append_right _ (List.mem_append_left _ (List.mem_of_getElem? (i := 204) rfl)))))) (by decide +kernel)
theorem qz925 : Cond.selects RX11 yX11_hours yX11_hours ∈ TB := tb_of (List.mem_append_right _ (List.mem_append_right _ (List.mem_append_right _ (List.mem_append_right _ (List.mem_append_left _ (List.mem_of_getElem? (i := 205) rfl)))))) (by decide +kernel)
theorem qz1823 : Cond.code yX12_hours cX12_hours 3 (some .int) ∈ TB := tb_of (List.mem_append_right _ (List.mem_append_right _ (List.mem_append_right _ (List.mem_append_right _ (List.mem_append_right _ (List.mem_append_right _ (List.mem_append_right _ (List.mem_append_right _ (List.mem_append_left _ (List.mem_of_getElem? (i := 143) rfl)))))))))) (by decide +kernel)
theorem qz1820 : Cond.methodLink RL 80 yX12_hours ∈ TB := tb_of (List.mem_append_right _ (List.mem_append_right _ (List.mem_append_right _ (List.mem_append_right _ (List.mem_append_right _ (List.mem_append_right _ (List.mem_append_right _ (List.mem_append_right _ (List.mem_append_left _ (List.mem_of_getElem? (i := 140) rfl)))))))))) (by decide +kernel)
theorem qz1821 : Cond.instanceMethod yX12_hours ∈ TB := tb_of (List.mem_append_right _ (List.mem_append_right _ (List.mem_append_right _ (List.mem_append_right _ (List.mem_append_right _ (List.mem_append_right _ (List.mem_append_right _ (List.mem_append_right _ (List.mem_append_left _ (List.mem_of_getElem? (i := 141) rfl)))))))))) (by decide +kernel)
theorem qz1822 : Cond.selects RX12 yX12_hours yX12_hours ∈ TB := tb_of (List.mem_append_right _ (List.mem_append_right _ (List.mem_append_right _ (List.mem_append_right _ (List.mem_append_right _ (List.mem_append_right _ (List.mem_append_right _ (List.mem_append_right _ (List.mem_append_left _ (List.mem_of_getElem? (i := 142) rfl)))))))))) (by decide +kernel)
theorem qz935 : Cond.code yX11_done cX11_done 3 (some .int) ∈ TB := tb_of (List.mem_append_right _ (List.mem_append_right _ (List.mem_append_right _ (List.mem_append_right _ (List.mem_append_left _ (List.mem_of_getElem? (i := 215) rfl)))))) (by decide +kernel)
theorem qz932 : Cond.methodLink RL 81 yX11_done ∈ TB := tb_of (List.mem_append_right _ (List.mem_append_right _ (List.mem_append_right _ (List.mem_append_right _ (List.mem_append_left _ (List.mem_of_getElem? (i := 212) rfl)))))) (by decide +kernel)
theorem qz933 : Cond.instanceMethod yX11_done ∈ TB := tb_of (List.mem_append_right _ (List.mem_append_right _ (List.mem_append_right _ (List.mem_append_right _ (List.mem_append_left _ (List.mem_of_getElem? (i := 213) rfl)))))) (by decide +kernel)
theorem qz934 : Cond.selects RX11 yX11_done yX11_done ∈ TB := tb_of (List.mem_append_right _ (List.mem_append_right _ (List.mem_append_right _ (List.mem_append_right _ (List.mem_append_left _ (List.mem_of_getElem? (i := 214) rfl)))))) (by decide +kernel)
theorem qz1831 : Cond.code yX12_done cX12_done 3 (some .int) ∈ TB := tb_of (List.mem_append_right _ (List.mem_append_right _ (List.mem_append_right _ (List.mem_append_right _ (List.mem_append_right _ (List.mem_append_right _ (List.mem_append_right _ (List.mem_append_right _ (List.mem_append_left _ (List.mem_of_getElem? (i := 151) rfl)))))))))) (by decide +kernel)
theorem qz1828 : Cond.methodLink RL 84 yX12_done ∈ TB := tb_of (List.mem_append_right _ (List.mem_append_right _ (List.mem_append_right _ (List.mem_append_right _ (List.mem_append_right _ (List.mem_append_right _ (List.mem_append_right _ (List.mem_append_right _ (List.mem_append_left _ (List.mem_of_getElem? (i := 148) rfl)))))))))) (by decide +kernel)
theorem qz1829 : Cond.instanceMethod yX12_done ∈ TB := tb_of (List.mem_append_right _ (List.mem_append_right _ (List.mem_append_right _ (List.mem_append_right _ (List.mem_append_right _ (List.mem_append_right _ (List.mem_append_right _ (List.mem_append_right _ (List.mem_append_left _ (List.mem_of_getElem? (i := 149) rfl)))))))))) (by decide +kernel)
theorem qz1830 : Cond.selects RX12 yX12_done yX12_done ∈ TB := tb_of (List.mem_append_right _ (List.mem_append_right _ (List.mem_append_right _ (List.mem_append_right _ (List.mem_append_right _ (List.mem_append_right _ (List.mem_append_right _ (List.mem_append_right _ (List.mem_append_left _ (List.mem_of_getElem? (i := 150) rfl)))))))))) (by decide +kernel)
theorem qz940 : Cond.code yX11_undo cX11_undo 1 (some .int) ∈ TB := tb_of (List.mem_append_right _ (List.mem_append_right _ (List.mem_append_right _ (List.mem_append_right _ (List.mem_append_left _ (List.mem_of_getElem? (i := 220) rfl)))))) (by decide +kernel)
theorem qz937 : Cond.methodLink RL 85 yX11_undo ∈ TB := tb_of (List.mem_append_right _ (List.mem_append_right _ (List.mem_append_right _ (List.mem_append_right _ (List.mem_append_left _ (List.mem_of_getElem? (i := 217) rfl)))))) (by decide +kernel)
theorem qz938 : Cond.instanceMethod yX11_undo ∈ TB := tb_of (List.mem_append_right _ (List.mem_append_right _ (List.mem_append_right _ (List.mem_append_right _ (List.mem_append_left _ (List.mem_of_getElem? (i := 218) rfl)))))) (by decide +kernel)
theorem qz939 : Cond.selects RX11 yX11_undo yX11_undo ∈ TB := tb_of (List.mem_append_right _ (List.mem_append_right _ (List.mem_append_right _ (List.mem_append_right _ (List.mem_append_left _ (List.mem_of_getElem? (i := 219) rfl)))))) (by decide +kernel)
theorem qz1835 : Cond.code yX12_undo cX12_undo 2 (some .int) ∈ TB := tb_of (List.mem_append_right _ (List.mem_append_right _ (List.mem_append_right _ (List.mem_append_right _ (List.mem_append_right _ (List.mem_append_right _ (List.mem_append_right _ (List.mem_append_right _ (List.mem_append_left _ (List.mem_of_getElem? (i := 155) rfl)))))))))) (by decide +kernel)
theorem qz1832 : Cond.methodLink RL 88 yX12_undo ∈ TB := tb_of (List.mem_append_right _ (List.mem_append_right _ (List.mem_append_right _ (List.mem_append_right _ (List.mem_append_right _ (List.mem_append_right _ (List.mem_append_right _ (List.mem_append_right _ (List.mem_append_left _ (List.mem_of_getElem? (i := 152) rfl)))))))))) (by decide +kernel)
theorem qz1833 : Cond.instanceMethod yX12_undo ∈ TB := tb_of (List.mem_append_right _ (List.mem_append_right _ (List.mem_append_right _ (List.mem_append_right _ (List.mem_append_right _ (List.mem_append_right _ (List.mem_append_right _ (List.mem_append_right _ (List.mem_append_left _ (List.mem_of_getElem? (i := 153) rfl)))))))))) (by decide +kernel)
theorem qz1834 : Cond.selects RX12 yX12_undo yX12_undo ∈ TB := tb_of (List.mem_append_right _ (List.mem_append_right _ (List.mem_append_right _ (List.mem_append_right _ (List.mem_append_right _ (List.mem_append_right _ (List.mem_append_right _ (List.mem_append_right _ (List.mem_append_left _ (List.mem_of_getElem? (i := 154) rfl)))))))))) (by decide +kernel)
theorem qz948 : Cond.code yX11_status cX11_status 3 (some .int) ∈ TB := tb_of (List.mem_append_right _ (List.mem_append_right _ (List.mem_append_right _ (List.mem_append_right _ (List.mem_append_left _ (List.mem_of_getElem? (i := 228) rfl)))))) (by decide +kernel)
theorem qz945 : Cond.methodLink RL 89 yX11_status ∈ TB := tb_of (List.mem_append_right _ (List.mem_append_right _ (List.mem_append_right _ (List.mem_append_right _ (List.mem_append_left _ (List.mem_of_getElem? (i := 225) rfl)))))) (by decide +kernel)
theorem qz946 : Cond.instanceMethod yX11_status ∈ TB := tb_of (List.mem_append_right _ (List.mem_append_right _ (List.mem_append_right _ (List.mem_append_right _ (List.mem_append_left _ (List.mem_of_getElem? (i := 226) rfl)))))) (by decide +kernel)
theorem qz947 : Cond.selects RX11 yX11_status yX11_status ∈ TB := tb_of (List.mem_append_right _ (List.mem_append_right _ (List.mem_append_right _ (List.mem_append_right _ (List.mem_append_left _ (List.mem_of_getElem? (i := 227) rfl)))))) (by decide +kernel)
theorem qz1839 : Cond.code yX12_status cX12_status 3 (some .int) ∈ TB := tb_of (List.mem_append_right _ (List.mem_append_right _ (List.mem_append_right _ (List.mem_append_right _ (List.mem_append_right _ (List.mem_append_right _ (List.mem_append_right _ (List.mem_append_right _ (List.mem_append_left _ (List.mem_of_getElem? (i := 159) rfl)))))))))) (by decide +kernel)
theorem qz1836 : Cond.methodLink RL 92 yX12_status ∈ TB := tb_of (List.mem_append_right _ (List.mem_append_right _ (List.mem_append_right _ (List.mem_append_right _ (List.mem_append_right _ (List.mem_append_right _ (List.mem_append_right _ (List.mem_append_right _ (List.mem_append_left _ (List.mem_of_getElem? (i := 156) rfl)))))))))) (by decide +kernel)
theorem qz1837 : Cond.instanceMethod yX12_status ∈ TB := tb_of (List.mem_append_right _ (List.mem_append_right _ (List.mem_append_right _ (List.mem_append_right _ (List.mem_append_right _ (List.mem_append_right _ (List.mem_append_right _ (List.mem_append_right _ (List.mem_append_left _ (List.mem_of_getElem? (i := 157) rfl)))))))))) (by decide +kernel)
theorem qz1838 : Cond.selects RX12 yX12_status yX12_status ∈ TB := tb_of (List.mem_append_right _ (List.mem_append_right _ (List.mem_append_right _ (List.mem_append_right _ (List.mem_append_right _ (List.mem_append_right _ (List.mem_append_right _ (List.mem_append_right _ (List.mem_append_left _ (List.mem_of_getElem? (i := 158) rfl)))))))))) (by decide +kernel)
theorem qz959 : Cond.code yX11_readings cX11_readings 5 (some .int) ∈ TB := tb_of (List.mem_append_right _ (List.mem_append_right _ (List.mem_append_right _ (List.mem_append_right _ (List.mem_append_left _ (List.mem_of_getElem? (i := 239) rfl)))))) (by decide +kernel)
theorem qz956 : Cond.methodLink RL 93 yX11_readings ∈ TB := tb_of (List.mem_append_right _ (List.mem_append_right _ (List.mem_append_right _ (List.mem_append_right _ (List.mem_append_left _ (List.mem_of_getElem? (i := 236) rfl)))))) (by decide +kernel)
theorem qz957 : Cond.instanceMethod yX11_readings ∈ TB := tb_of (List.mem_append_right _ (List.mem_append_right _ (List.mem_append_right _ (List.mem_append_right _ (List.mem_append_left _ (List.mem_of_getElem? (i := 237) rfl)))))) (by decide +kernel)
theorem qz958 : Cond.selects RX11 yX11_readings yX11_readings ∈ TB := tb_of (List.mem_append_right _ (List.mem_append_right _ (List.mem_append_right _ (List.mem_append_right _ (List.mem_append_left _ (List.mem_of_getElem? (i := 238) rfl)))))) (by decide +kernel)
theorem qz1847 : Cond.code yX12_readings cX12_readings 5 (some .int) ∈ TB := tb_of (List.mem_append_right _ (List.mem_append_right _ (List.mem_append_right _ (List.mem_append_right _ (List.mem_append_right _ (List.mem_append_right _ (List.mem_append_right _ (List.mem_append_right _ (List.mem_append_left _ (List.mem_of_getElem? (i := 167) rfl)))))))))) (by decide +kernel)
theorem qz1844 : Cond.methodLink RL 96 yX12_readings ∈ TB := tb_of (List.mem_append_right _ (List.mem_append_right _ (List.mem_append_right _ (List.mem_append_right _ (List.mem_append_right _ (List.mem_append_right _ (List.mem_append_right _ (List.mem_append_right _ (List.mem_append_left _ (List.mem_of_getElem? (i := 164) rfl)))))))))) (by decide +kernel)
theorem qz1845 : Cond.instanceMethod yX12_readings ∈ TB := tb_of (List.mem_append_right _ (List.mem_append_right _ (List.mem_append_right _ (List.mem_append_right _ (List.mem_append_right _ (List.mem_append_right _ (List.mem_append_right _ (List.mem_append_right _ (List.mem_append_left _ (List.mem_of_getElem? (i := 165) rfl)))))))))) (by decide +kernel)
theorem qz1846 : Cond.selects RX12 yX12_readings yX12_readings ∈ TB := tb_of (List.mem_append_right _ (List.mem_append_right _ (List.mem_append_right _ (List.mem_append_right _ (List.mem_append_right _ (List.mem_append_right _ (List.mem_append_right _ (List.mem_append_right _ (List.mem_append_left _ (List.mem_of_getElem? (i := 166) rfl)))))))))) (by decide +kernel)
theorem qz963 : Cond.code yX11_broken cX11_broken 3 (some .int) ∈ TB := tb_of (List.mem_append_right _ (List.mem_append_right _ (List.mem_append_right _ (List.mem_append_right _ (List.mem_append_right _ (List.mem_append_left _ (List.mem_of_getElem? (i := 3) rfl))))))) (by decide +kernel)
theorem qz960 : Cond.methodLink RL 97 yX11_broken ∈ TB := tb_of (List.mem_append_right _ (List.mem_append_right _ (List.mem_append_right _ (List.mem_append_right _ (List.mem_append_right _ (List.mem_append_left _ (List.mem_of_getElem? (i := 0) rfl))))))) (by decide +kernel)
theorem qz961 : Cond.instanceMethod yX11_broken ∈ TB := tb_of (List.mem_append_right _ (List.mem_append_right _ (List.mem_append_right _ (List.mem_append_right _ (List.mem_append_right _ (List.mem_append_left _ (List.mem_of_getElem? (i := 1) rfl))))))) (by decide +kernel)
theorem qz962 : Cond.selects RX11 yX11_broken yX11_broken ∈ TB := tb_of (List.mem_append_right _ (List.mem_append_right _ (List.mem_append_right _ (List.mem_append_right _ (List.mem_append_right _ (List.mem_append_left _ (List.mem_of_getElem? (i := 2) rfl))))))) (by decide +kernel)
theorem qz1851 : Cond.code yX12_broken cX12_broken 3 (some .int) ∈ TB := tb_of (List.mem_append_right _ (List.mem_append_right _ (List.mem_append_right _ (List.mem_append_right _ (List.mem_append_right _ (List.mem_append_right _ (List.mem_append_right _ (List.mem_append_right _ (List.mem_append_left _ (List.mem_of_getElem? (i := 171) rfl)))))))))) (by decide +kernel)
theorem qz1848 : Cond.methodLink RL 100 yX12_broken ∈ TB := tb_of (List.mem_append_right _ (List.mem_append_right _ (List.mem_append_right _ (List.mem_append_right _ (List.mem_append_right _ (List.mem_append_right _ (List.mem_append_right _ (List.mem_append_right _ (List.mem_append_left _ (List.mem_of_getElem? (i := 168) rfl)))))))))) (by decide +kernel)
theorem qz1849 : Cond.instanceMethod yX12_broken ∈ TB := tb_of (List.mem_append_right _ (List.mem_append_right _ (List.mem_append_right _ (List.mem_append_right _ (List.mem_append_right _ (List.mem_append_right _ (List.mem_append_right _ (List.mem_append_right _ (List.mem_append_left _ (List.mem_of_getElem? (i := 169) rfl)))))))))) (by decide +kernel)
theorem qz1850 : Cond.selects RX12 yX12_broken yX12_broken ∈ TB := tb_of (List.mem_append_right _ (List.mem_append_right _ (List.mem_append_right _ (List.mem_append_right _ (List.mem_append_right _ (List.mem_append_right _ (List.mem_append_right _ (List.mem_append_right _ (List.mem_append_left _ (List.mem_of_getElem? (i := 170) rfl)))))))))) (by decide +kernel)
theorem qz968 : Cond.code yX11_breach cX11_breach 3 (some .int) ∈ TB := tb_of (List.mem_append_right _ (List.mem_append_right _ (List.mem_append_right _ (List.mem_append_right _ (List.mem_append_right _ (List.mem_append_left _ (List.mem_of_getElem? (i := 8) rfl))))))) (by decide +kernel)
theorem qz965 : Cond.methodLink RL 101 yX11_breach ∈ TB := tb_of (List.mem_append_right _ (List.mem_append_right _ (List.mem_append_right _ (List.mem_append_right _ (List.mem_append_right _ (List.mem_append_left _ (List.mem_of_getElem? (i := 5) rfl))))))) (by decide +kernel)
theorem qz966 : Cond.instanceMethod yX11_breach ∈ TB := tb_of (List.mem_append_right _ (List.mem_append_right _ (List.mem_append_right _ (List.mem_append_right _ (List.mem_append_right _ (List.mem_append_left _ (List.mem_of_getElem? (i := 6) rfl))))))) (by decide +kernel)
theorem qz967 : Cond.selects RX11 yX11_breach yX11_breach ∈ TB := tb_of (List.mem_append_right _ (List.mem_append_right _ (List.mem_append_right _ (List.mem_append_right _ (List.mem_append_right _ (List.mem_append_left _ (List.mem_of_getElem? (i := 7) rfl))))))) (by decide +kernel)
theorem qz1855 : Cond.code yX12_breach cX12_breach 8 (some .int) ∈ TB := tb_of (List.mem_append_right _ (List.mem_append_right _ (List.mem_append_right _ (List.mem_append_right _ (List.mem_append_right _ (List.mem_append_right _ (List.mem_append_right _ (List.mem_append_right _ (List.mem_append_left _ (List.mem_of_getElem? (i := 175) rfl)))))))))) (by decide +kernel)
theorem qz1852 : Cond.methodLink RL 104 yX12_breach ∈ TB := tb_of (List.mem_append_right _ (List.mem_append_right _ (List.mem_append_right _ (List.mem_append_right _ (List.mem_append_right _ (List.mem_append_right _ (List.mem_append_right _ (List.mem_append_right _ (List.mem_append_left _ (List.mem_of_getElem? (i := 172) rfl)))))))))) (by decide +kernel)
theorem qz1853 : Cond.instanceMethod yX12_breach ∈ TB := tb_of (List.mem_append_right _ (List.mem_append_right _ (List.mem_append_right _ (List.mem_append_right _ (List.mem_append_right _ (List.mem_append_right _ (List.mem_append_right _ (List.mem_append_right _ (List.mem_append_left _ (List.mem_of_getElem? (i := 173) rfl)))))))))) (by decide +kernel)
theorem qz1854 : Cond.selects RX12 yX12_breach yX12_breach ∈ TB := tb_of (List.mem_append_right _ (List.mem_append_right _ (List.mem_append_right _ (List.mem_append_right _ (List.mem_append_right _ (List.mem_append_right _ (List.mem_append_right _ (List.mem_append_right _ (List.mem_append_left _ (List.mem_of_getElem? (i := 174) rfl)))))))))) (by decide +kernel)
theorem qz983 : Cond.code yX11_asks cX11_asks 3 (some .int) ∈ TB := tb_of (List.mem_append_right _ (List.mem_append_right _ (List.mem_append_right _ (List.mem_append_right _ (List.mem_append_right _ (List.mem_append_left _ (List.mem_of_getElem? (i := 23) rfl))))))) (by decide +kernel)
theorem qz980 : Cond.methodLink RL 105 yX11_asks ∈ TB := tb_of (List.mem_append_right _ (List.mem_append_right _ (List.mem_append_right _ (List.mem_append_right _ (List.mem_append_right _ (List.mem_append_left _ (List.mem_of_getElem? (i := 20) rfl))))))) (by decide +kernel)
theorem qz981 : Cond.instanceMethod yX11_asks ∈ TB := tb_of (List.mem_append_right _ (List.mem_append_right _ (List.mem_append_right _ (List.mem_append_right _ (List.mem_append_right _ (List.mem_append_left _ (List.mem_of_getElem? (i := 21) rfl))))))) (by decide +kernel)
theorem qz982 : Cond.selects RX11 yX11_asks yX11_asks ∈ TB := tb_of (List.mem_append_right _ (List.mem_append_right _ (List.mem_append_right _ (List.mem_append_right _ (List.mem_append_right _ (List.mem_append_left _ (List.mem_of_getElem? (i := 22) rfl))))))) (by decide +kernel)
theorem qz1859 : Cond.code yX12_asks cX12_asks 3 (some .int) ∈ TB := tb_of (List.mem_append_right _ (List.mem_append_right _ (List.mem_append_right _ (List.mem_append_right _ (List.mem_append_right _ (List.mem_append_right _ (List.mem_append_right _ (List.mem_append_right _ (List.mem_append_left _ (List.mem_of_getElem? (i := 179) rfl)))))))))) (by decide +kernel)
theorem qz1856 : Cond.methodLink RL 108 yX12_asks ∈ TB := tb_of (List.mem_append_right _ (List.mem_append_right _ (List.mem_append_right _ (List.mem_append_right _ (List.mem_append_right _ (List.mem_append_right _ (List.mem_append_right _ (List.mem_append_right _ (List.mem_append_left _ (List.mem_of_getElem? (i := 176) rfl)))))))))) (by decide +kernel)
theorem qz1857 : Cond.instanceMethod yX12_asks ∈ TB := tb_of (List.mem_append_right _ (List.mem_append_right _ (List.mem_append_right _ (List.mem_append_right _ (List.mem_append_right _ (List.mem_append_right _ (List.mem_append_right _ (List.mem_append_right _ (List.mem_append_left _ (List.mem_of_getElem? (i := 177) rfl)))))))))) (by decide +kernel)
theorem qz1858 : Cond.selects RX12 yX12_asks yX12_asks ∈ TB := tb_of (List.mem_append_right _ (List.mem_append_right _ (List.mem_append_right _ (List.mem_append_right _ (List.mem_append_right _ (List.mem_append_right _ (List.mem_append_right _ (List.mem_append_right _ (List.mem_append_left _ (List.mem_of_getElem? (i := 178) rfl)))))))))) (by decide +kernel)
theorem qz992 : Cond.code yX11_agree cX11_agree 3 (some .int) ∈ TB := tb_of (List.mem_append_right _ (List.mem_append_right _ (List.mem_append_right _ (List.mem_append_right _ (List.mem_append_right _ (List.mem_append_left _ (List.mem_of_getElem? (i := 32) rfl))))))) (by decide +kernel)
theorem qz989 : Cond.methodLink RL 109 yX11_agree ∈ TB := tb_of (List.mem_append_right _ (List.mem_append_right _ (List.mem_append_right _ (List.mem_append_right _ (List.mem_append_right _ (List.mem_append_left _ (List.mem_of_getElem? (i := 29) rfl))))))) (by decide +kernel)
theorem qz990 : Cond.instanceMethod yX11_agree ∈ TB := tb_of (List.mem_append_right _ (List.mem_append_right _ (List.mem_append_right _ (List.mem_append_right _ (List.mem_append_right _ (List.mem_append_left _ (List.mem_of_getElem? (i := 30) rfl))))))) (by decide +kernel)
theorem qz991 : Cond.selects RX11 yX11_agree yX11_agree ∈ TB := tb_of (List.mem_append_right _ (List.mem_append_right _ (List.mem_append_right _ (List.mem_append_right _ (List.mem_append_right _ (List.mem_append_left _ (List.mem_of_getElem? (i := 31) rfl))))))) (by decide +kernel)
theorem qz1871 : Cond.code yX12_agree cX12_agree 5 (some .int) ∈ TB := tb_of (List.mem_append_right _ (List.mem_append_right _ (List.mem_append_right _ (List.mem_append_right _ (List.mem_append_right _ (List.mem_append_right _ (List.mem_append_right _ (List.mem_append_right _ (List.mem_append_left _ (List.mem_of_getElem? (i := 191) rfl)))))))))) (by decide +kernel)
theorem qz1868 : Cond.methodLink RL 112 yX12_agree ∈ TB := tb_of (List.mem_append_right _ (List.mem_append_right _ (List.mem_append_right _ (List.mem_append_right _ (List.mem_append_right _ (List.mem_append_right _ (List.mem_append_right _ (List.mem_append_right _ (List.mem_append_left _ (List.mem_of_getElem? (i := 188) rfl)))))))))) (by decide +kernel)
theorem qz1869 : Cond.instanceMethod yX12_agree ∈ TB := tb_of (List.mem_append_right _ (List.mem_append_right _ (List.mem_append_right _ (List.mem_append_right _ (List.mem_append_right _ (List.mem_append_right _ (List.mem_append_right _ (List.mem_append_right _ (List.mem_append_left _ (List.mem_of_getElem? (i := 189) rfl)))))))))) (by decide +kernel)
theorem qz1870 : Cond.selects RX12 yX12_agree yX12_agree ∈ TB := tb_of (List.mem_append_right _ (List.mem_append_right _ (List.mem_append_right _ (List.mem_append_right _ (List.mem_append_right _ (List.mem_append_right _ (List.mem_append_right _ (List.mem_append_right _ (List.mem_append_left _ (List.mem_of_getElem? (i := 190) rfl)))))))))) (by decide +kernel)
theorem qz1065 : Cond.code yX11_step cX11_step 2 (some .int) ∈ TB := tb_of (List.mem_append_right _ (List.mem_append_right _ (List.mem_append_right _ (List.mem_append_right _ (List.mem_append_right _ (List.mem_append_left _ (List.mem_of_getElem? (i := 105) rfl))))))) (by decide +kernel)
theorem qz1062 : Cond.methodLink RL 117 yX11_step ∈ TB := tb_of (List.mem_append_right _ (List.mem_append_right _ (List.mem_append_right _ (List.mem_append_right _ (List.mem_append_right _ (List.mem_append_left _ (List.mem_of_getElem? (i := 102) rfl))))))) (by decide +kernel)
theorem qz1063 : Cond.instanceMethod yX11_step ∈ TB := tb_of (List.mem_append_right _ (List.mem_append_right _ (List.mem_append_right _ (List.mem_append_right _ (List.mem_append_right _ (List.mem_append_left _ (List.mem_of_getElem? (i := 103) rfl))))))) (by decide +kernel)
theorem qz1064 : Cond.selects RX11 yX11_step yX11_step ∈ TB := tb_of (List.mem_append_right _ (List.mem_append_right _ (List.mem_append_right _ (List.mem_append_right _ (List.mem_append_right _ (List.mem_append_left _ (List.mem_of_getElem? (i := 104) rfl))))))) (by decide +kernel)
theorem qz1913 : Cond.code yX12_step cX12_step 2 (some .int) ∈ TB := tb_of (List.mem_append_right _ (List.mem_append_right _ (List.mem_append_right _ (List.mem_append_right _ (List.mem_append_right _ (List.mem_append_right _ (List.mem_append_right _ (List.mem_append_right _ (List.mem_append_left _ (List.mem_of_getElem? (i := 233) rfl)))))))))) (by decide +kernel)
theorem qz1910 : Cond.methodLink RL 120 yX12_step ∈ TB := tb_of (List.mem_append_right _ (List.mem_append_right _ (List.mem_append_right _ (List.mem_append_right _ (List.mem_append_right _ (List.mem_append_right _ (List.mem_append_right _ (List.mem_append_right _ (List.mem_append_left _ (List.mem_of_getElem? (i := 230) rfl)))))))))) (by decide +kernel)
theorem qz1911 : Cond.instanceMethod yX12_step ∈ TB := tb_of (List.mem_append_right _ (List.mem_append_right _ (List.mem_append_right _ (List.mem_append_right _ (List.mem_append_right _ (List.mem_append_right _ (List.mem_append_right _ (List.mem_append_right _ (List.mem_append_left _ (List.mem_of_getElem? (i := 231) rfl)))))))))) (by decide +kernel)
theorem qz1912 : Cond.selects RX12 yX12_step yX12_step ∈ TB := tb_of (List.mem_append_right _ (List.mem_append_right _ (List.mem_append_right _ (List.mem_append_right _ (List.mem_append_right _ (List.mem_append_right _ (List.mem_append_right _ (List.mem_append_right _ (List.mem_append_left _ (List.mem_of_getElem? (i := 232) rfl)))))))))) (by decide +kernel)
theorem qz1091 : Cond.code yX11_chain cX11_chain 2 (some .int) ∈ TB := tb_of (List.mem_append_right _ (List.mem_append_right _ (List.mem_append_right _ (List.mem_append_right _ (List.mem_append_right _ (List.mem_append_left _ (List.mem_of_getElem? (i := 131) rfl))))))) (by decide +kernel)
theorem qz1088 : Cond.methodLink RL 125 yX11_chain ∈ TB := tb_of (List.mem_append_right _ (List.mem_append_right _ (List.mem_append_right _ (List.mem_append_right _ (List.mem_append_right _ (List.mem_append_left _ (List.mem_of_getElem? (i := 128) rfl))))))) (by decide +kernel)
theorem qz1089 : Cond.instanceMethod yX11_chain ∈ TB := tb_of (List.mem_append_right _ (List.mem_append_right _ (List.mem_append_right _ (List.mem_append_right _ (List.mem_append_right _ (List.mem_append_left _ (List.mem_of_getElem? (i := 129) rfl))))))) (by decide +kernel)
theorem qz1090 : Cond.selects RX11 yX11_chain yX11_chain ∈ TB := tb_of (List.mem_append_right _ (List.mem_append_right _ (List.mem_append_right _ (List.mem_append_right _ (List.mem_append_right _ (List.mem_append_left _ (List.mem_of_getElem? (i := 130) rfl))))))) (by decide +kernel)
theorem qz1921 : Cond.code yX12_chain cX12_chain 2 (some .int) ∈ TB := tb_of (List.mem_append_right _ (List.mem_append_right _ (List.mem_append_right _ (List.mem_append_right _ (List.mem_append_right _ (List.mem_append_right _ (List.mem_append_right _ (List.mem_append_right _ (List.mem_append_right _ (List.mem_of_getElem? (i := 1) rfl)))))))))) (by decide +kernel)
theorem qz1918 : Cond.methodLink RL 128 yX12_chain ∈ TB := tb_of (List.mem_append_right _ (List.mem_append_right _ (List.mem_append_right _ (List.mem_append_right _ (List.mem_append_right _ (List.mem_append_right _ (List.mem_append_right _ (List.mem_append_right _ (List.mem_append_left _ (List.mem_of_getElem? (i := 238) rfl)))))))))) (by decide +kernel)
theorem qz1919 : Cond.instanceMethod yX12_chain ∈ TB := tb_of (List.mem_append_right _ (List.mem_append_right _ (List.mem_append_right _ (List.mem_append_right _ (List.mem_append_right _ (List.mem_append_right _ (List.mem_append_right _ (List.mem_append_right _ (List.mem_append_left _ (List.mem_of_getElem? (i := 239) rfl)))))))))) (by decide +kernel)
theorem qz1920 : Cond.selects RX12 yX12_chain yX12_chain ∈ TB := tb_of (List.mem_append_right _ (List.mem_append_right _ (List.mem_append_right _ (List.mem_append_right _ (List.mem_append_right _ (List.mem_append_right _ (List.mem_append_right _ (List.mem_append_right _ (List.mem_append_right _ (List.mem_of_getElem? (i := 0) rfl)))))))))) (by decide +kernel)
theorem qz1103 : Cond.code yX11_rings cX11_rings 1 (some .int) ∈ TB := tb_of (List.mem_append_right _ (List.mem_append_right _ (List.mem_append_right _ (List.mem_append_right _ (List.mem_append_right _ (List.mem_append_left _ (List.mem_of_getElem? (i := 143) rfl))))))) (by decide +kernel)
theorem qz1100 : Cond.methodLink RL 129 yX11_rings ∈ TB := tb_of (List.mem_append_right _ (List.mem_append_right _ (List.mem_append_right _ (List.mem_append_right _ (List.mem_append_right _ (List.mem_append_left _ (List.mem_of_getElem? (i := 140) rfl))))))) (by decide +kernel)
theorem qz1101 : Cond.instanceMethod yX11_rings ∈ TB := tb_of (List.mem_append_right _ (List.mem_append_right _ (List.mem_append_right _ (List.mem_append_right _ (List.mem_append_right _ (List.mem_append_left _ (List.mem_of_getElem? (i := 141) rfl))))))) (by decide +kernel)
theorem qz1102 : Cond.selects RX11 yX11_rings yX11_rings ∈ TB := tb_of (List.mem_append_right _ (List.mem_append_right _ (List.mem_append_right _ (List.mem_append_right _ (List.mem_append_right _ (List.mem_append_left _ (List.mem_of_getElem? (i := 142) rfl))))))) (by decide +kernel)
theorem qz1929 : Cond.code yX12_rings cX12_rings 3 (some .int) ∈ TB := tb_of (List.mem_append_right _ (List.mem_append_right _ (List.mem_append_right _ (List.mem_append_right _ (List.mem_append_right _ (List.mem_append_right _ (List.mem_append_right _ (List.mem_append_right _ (List.mem_append_right _ (List.mem_of_getElem? (i := 9) rfl)))))))))) (by decide +kernel)
theorem qz1926 : Cond.methodLink RL 132 yX12_rings ∈ TB := tb_of (List.mem_append_right _ (List.mem_append_right _ (List.mem_append_right _ (List.mem_append_right _ (List.mem_append_right _ (List.mem_append_right _ (List.mem_append_right _ (List.mem_append_right _ (List.mem_append_right _ (List.mem_of_getElem? (i := 6) rfl)))))))))) (by decide +kernel)
theorem qz1927 : Cond.instanceMethod yX12_rings ∈ TB := tb_of (List.mem_append_right _ (List.mem_append_right _ (List.mem_append_right _ (List.mem_append_right _ (List.mem_append_right _ (List.mem_append_right _ (List.mem_append_right _ (List.mem_append_right _ (List.mem_append_right _ (List.mem_of_getElem? (i := 7) rfl)))))))))) (by decide +kernel)
theorem qz1928 : Cond.selects RX12 yX12_rings yX12_rings ∈ TB := tb_of (List.mem_append_right _ (List.mem_append_right _ (List.mem_append_right _ (List.mem_append_right _ (List.mem_append_right _ (List.mem_append_right _ (List.mem_append_right _ (List.mem_append_right _ (List.mem_append_right _ (List.mem_of_getElem? (i := 8) rfl)))))))))) (by decide +kernel)
theorem qz1111 : Cond.code yX11_roots cX11_roots 1 (some .int) ∈ TB := tb_of (List.mem_append_right _ (List.mem_append_right _ (List.mem_append_right _ (List.mem_append_right _ (List.mem_append_right _ (List.mem_append_left _ (List.mem_of_getElem? (i := 151) rfl))))))) (by decide +kernel)
theorem qz1108 : Cond.methodLink RL 133 yX11_roots ∈ TB := tb_of (List.mem_append_right _ (List.mem_append_right _ (List.mem_append_right _ (List.mem_append_right _ (List.mem_append_right _ (List.mem_append_left _ (List.mem_of_getElem? (i := 148) rfl))))))) (by decide +kernel)
theorem qz1109 : Cond.instanceMethod yX11_roots ∈ TB := tb_of (List.mem_append_right _ (List.mem_append_right _ (List.mem_append_right _ (List.mem_append_right _ (List.mem_append_right _ (List.mem_append_left _ (List.mem_of_getElem? (i := 149) rfl))))))) (by decide +kernel)
theorem qz1110 : Cond.selects RX11 yX11_roots yX11_roots ∈ TB := tb_of (List.mem_append_right _ (List.mem_append_right _ (List.mem_append_right _ (List.mem_append_right _ (List.mem_append_right _ (List.mem_append_left _ (List.mem_of_getElem? (i := 150) rfl))))))) (by decide +kernel)
theorem qz1933 : Cond.code yX12_roots cX12_roots 5 (some .int) ∈ TB := tb_of (List.mem_append_right _ (List.mem_append_right _ (List.mem_append_right _ (List.mem_append_right _ (List.mem_append_right _ (List.mem_append_right _ (List.mem_append_right _ (List.mem_append_right _ (List.mem_append_right _ (List.mem_of_getElem? (i := 13) rfl)))))))))) (by decide +kernel)
theorem qz1930 : Cond.methodLink RL 136 yX12_roots ∈ TB := tb_of (List.mem_append_right _ (List.mem_append_right _ (List.mem_append_right _ (List.mem_append_right _ (List.mem_append_right _ (List.mem_append_right _ (List.mem_append_right _ (List.mem_append_right _ (List.mem_append_right _ (List.mem_of_getElem? (i := 10) rfl)))))))))) (by decide +kernel)
theorem qz1931 : Cond.instanceMethod yX12_roots ∈ TB := tb_of (List.mem_append_right _ (List.mem_append_right _ (List.mem_append_right _ (List.mem_append_right _ (List.mem_append_right _ (List.mem_append_right _ (List.mem_append_right _ (List.mem_append_right _ (List.mem_append_right _ (List.mem_of_getElem? (i := 11) rfl)))))))))) (by decide +kernel)
theorem qz1932 : Cond.selects RX12 yX12_roots yX12_roots ∈ TB := tb_of (List.mem_append_right _ (List.mem_append_right _ (List.mem_append_right _ (List.mem_append_right _ (List.mem_append_right _ (List.mem_append_right _ (List.mem_append_right _ (List.mem_append_right _ (List.mem_append_right _ (List.mem_of_getElem? (i := 12) rfl)))))))))) (by decide +kernel)
theorem qz1120 : Cond.code yX11_knows cX11_knows 3 (some .int) ∈ TB := tb_of (List.mem_append_right _ (List.mem_append_right _ (List.mem_append_right _ (List.mem_append_right _ (List.mem_append_right _ (List.mem_append_left _ (List.mem_of_getElem? (i := 160) rfl))))))) (by decide +kernel)
theorem qz1117 : Cond.methodLink RL 137 yX11_knows ∈ TB := tb_of (List.mem_append_right _ (List.mem_append_right _ (List.mem_append_right _ (List.mem_append_right _ (List.mem_append_right _ (List.mem_append_left _ (List.mem_of_getElem? (i := 157) rfl))))))) (by decide +kernel)
theorem qz1118 : Cond.instanceMethod yX11_knows ∈ TB := tb_of (List.mem_append_right _ (List.mem_append_right _ (List.mem_append_right _ (List.mem_append_right _ (List.mem_append_right _ (List.mem_append_left _ (List.mem_of_getElem? (i := 158) rfl))))))) (by decide +kernel)
theorem qz1119 : Cond.selects RX11 yX11_knows yX11_knows ∈ TB := tb_of (List.mem_append_right _ (List.mem_append_right _ (List.mem_append_right _ (List.mem_append_right _ (List.mem_append_right _ (List.mem_append_left _ (List.mem_of_getElem? (i := 159) rfl))))))) (by decide +kernel)
theorem qz1937 : Cond.code yX12_knows cX12_knows 3 (some .int) ∈ TB := tb_of (List.mem_append_right _ (List.mem_append_right _ (List.mem_append_right _ (List.mem_append_right _ (List.mem_append_right _ (List.mem_append_right _ (List.mem_append_right _ (List.mem_append_right _ (List.mem_append_right _ (List.mem_of_getElem? (i := 17) rfl)))))))))) (by decide +kernel)
theorem qz1934 : Cond.methodLink RL 140 yX12_knows ∈ TB := tb_of (List.mem_append_right _ (List.mem_append_right _ (List.mem_append_right _ (List.mem_append_right _ (List.mem_append_right _ (List.mem_append_right _ (List.mem_append_right _ (List.mem_append_right _ (List.mem_append_right _ (List.mem_of_getElem? (i := 14) rfl)))))))))) (by decide +kernel)
theorem qz1935 : Cond.instanceMethod yX12_knows ∈ TB := tb_of (List.mem_append_right _ (List.mem_append_right _ (List.mem_append_right _ (List.mem_append_right _ (List.mem_append_right _ (List.mem_append_right _ (List.mem_append_right _ (List.mem_append_right _ (List.mem_append_right _ (List.mem_of_getElem? (i := 15) rfl)))))))))) (by decide +kernel)
theorem qz1936 : Cond.selects RX12 yX12_knows yX12_knows ∈ TB := tb_of (List.mem_append_right _ (List.mem_append_right _ (List.mem_append_right _ (List.mem_append_right _ (List.mem_append_right _ (List.mem_append_right _ (List.mem_append_right _ (List.mem_append_right _ (List.mem_append_right _ (List.mem_of_getElem? (i := 16) rfl)))))))))) (by decide +kernel)
theorem qz1129 : Cond.code yX11_heard cX11_heard 2 (some .int) ∈ TB := tb_of (List.mem_append_right _ (List.mem_append_right _ (List.mem_append_right _ (List.mem_append_right _ (List.mem_append_right _ (List.mem_append_left _ (List.mem_of_getElem? (i := 169) rfl))))))) (by decide +kernel)
theorem qz1126 : Cond.methodLink RL 141 yX11_heard ∈ TB := tb_of (List.mem_append_right _ (List.mem_append_right _ (List.mem_append_right _ (List.mem_append_right _ (List.mem_append_right _ (List.mem_append_left _ (List.mem_of_getElem? (i := 166) rfl))))))) (by decide +kernel)
theorem qz1127 : Cond.instanceMethod yX11_heard ∈ TB := tb_of (List.mem_append_right _ (List.mem_append_right _ (List.mem_append_right _ (List.mem_append_right _ (List.mem_append_right _ (List.mem_append_left _ (List.mem_of_getElem? (i := 167) rfl))))))) (by decide +kernel)
theorem qz1128 : Cond.selects RX11 yX11_heard yX11_heard ∈ TB := tb_of (List.mem_append_right _ (List.mem_append_right _ (List.mem_append_right _ (List.mem_append_right _ (List.mem_append_right _ (List.mem_append_left _ (List.mem_of_getElem? (i := 168) rfl))))))) (by decide +kernel)
theorem qz1945 : Cond.code yX12_heard cX12_heard 4 (some .int) ∈ TB := tb_of (List.mem_append_right _ (List.mem_append_right _ (List.mem_append_right _ (List.mem_append_right _ (List.mem_append_right _ (List.mem_append_right _ (List.mem_append_right _ (List.mem_append_right _ (List.mem_append_right _ (List.mem_of_getElem? (i := 25) rfl)))))))))) (by decide +kernel)
theorem qz1942 : Cond.methodLink RL 144 yX12_heard ∈ TB := tb_of (List.mem_append_right _ (List.mem_append_right _ (List.mem_append_right _ (List.mem_append_right _ (List.mem_append_right _ (List.mem_append_right _ (List.mem_append_right _ (List.mem_append_right _ (List.mem_append_right _ (List.mem_of_getElem? (i := 22) rfl)))))))))) (by decide +kernel)
theorem qz1943 : Cond.instanceMethod yX12_heard ∈ TB := tb_of (List.mem_append_right _ (List.mem_append_right _ (List.mem_append_right _ (List.mem_append_right _ (List.mem_append_right _ (List.mem_append_right _ (List.mem_append_right _ (List.mem_append_right _ (List.mem_append_right _ (List.mem_of_getElem? (i := 23) rfl)))))))))) (by decide +kernel)
theorem qz1944 : Cond.selects RX12 yX12_heard yX12_heard ∈ TB := tb_of (List.mem_append_right _ (List.mem_append_right _ (List.mem_append_right _ (List.mem_append_right _ (List.mem_append_right _ (List.mem_append_right _ (List.mem_append_right _ (List.mem_append_right _ (List.mem_append_right _ (List.mem_of_getElem? (i := 24) rfl)))))))))) (by decide +kernel)
theorem qz1138 : Cond.code yX11_dry cX11_dry 1 (some .int) ∈ TB := tb_of (List.mem_append_right _ (List.mem_append_right _ (List.mem_append_right _ (List.mem_append_right _ (List.mem_append_right _ (List.mem_append_left _ (List.mem_of_getElem? (i := 178) rfl))))))) (by decide +kernel)
theorem qz1135 : Cond.methodLink RL 145 yX11_dry ∈ TB := tb_of (List.mem_append_right _ (List.mem_append_right _ (List.mem_append_right _ (List.mem_append_right _ (List.mem_append_right _ (List.mem_append_left _ (List.mem_of_getElem? (i := 175) rfl))))))) (by decide +kernel)
theorem qz1136 : Cond.instanceMethod yX11_dry ∈ TB := tb_of (List.mem_append_right _ (List.mem_append_right _ (List.mem_append_right _ (List.mem_append_right _ (List.mem_append_right _ (List.mem_append_left _ (List.mem_of_getElem? (i := 176) rfl))))))) (by decide +kernel)
theorem qz1137 : Cond.selects RX11 yX11_dry yX11_dry ∈ TB := tb_of (List.mem_append_right _ (List.mem_append_right _ (List.mem_append_right _ (List.mem_append_right _ (List.mem_append_right _ (List.mem_append_left _ (List.mem_of_getElem? (i := 177) rfl))))))) (by decide +kernel)
theorem qz1949 : Cond.code yX12_dry cX12_dry 3 (some .int) ∈ TB := tb_of (List.mem_append_right _ (List.mem_append_right _ (List.mem_append_right _ (List.mem_append_right _ (List.mem_append_right _ (List.mem_append_right _ (List.mem_append_right _ (List.mem_append_right _ (List.mem_append_right _ (List.mem_of_getElem? (i := 29) rfl)))))))))) (by decide +kernel)
theorem qz1946 : Cond.methodLink RL 148 yX12_dry ∈ TB := tb_of (List.mem_append_right _ (List.mem_append_right _ (List.mem_append_right _ (List.mem_append_right _ (List.mem_append_right _ (List.mem_append_right _ (List.mem_append_right _ (List.mem_append_right _ (List.mem_append_right _ (List.mem_of_getElem? (i := 26) rfl)))))))))) (by decide +kernel)
theorem qz1947 : Cond.instanceMethod yX12_dry ∈ TB := tb_of (List.mem_append_right _ (List.mem_append_right _ (List.mem_append_right _ (List.mem_append_right _ (List.mem_append_right _ (List.mem_append_right _ (List.mem_append_right _ (List.mem_append_right _ (List.mem_append_right _ (List.mem_of_getElem? (i := 27) rfl)))))))))) (by decide +kernel)
theorem qz1948 : Cond.selects RX12 yX12_dry yX12_dry ∈ TB := tb_of (List.mem_append_right _ (List.mem_append_right _ (List.mem_append_right _ (List.mem_append_right _ (List.mem_append_right _ (List.mem_append_right _ (List.mem_append_right _ (List.mem_append_right _ (List.mem_append_right _ (List.mem_of_getElem? (i := 28) rfl)))))))))) (by decide +kernel)
theorem qz1147 : Cond.code yX11_windows cX11_windows 4 (some .int) ∈ TB := tb_of (List.mem_append_right _ (List.mem_append_right _ (List.mem_append_right _ (List.mem_append_right _ (List.mem_append_right _ (List.mem_append_left _ (List.mem_of_getElem? (i := 187) rfl))))))) (by decide +kernel)
theorem qz1144 : Cond.methodLink RL 149 yX11_windows ∈ TB := tb_of (List.mem_append_right _ (List.mem_append_right _ (List.mem_append_right _ (List.mem_append_right _ (List.mem_append_right _ (List.mem_append_left _ (List.mem_of_getElem? (i := 184) rfl))))))) (by decide +kernel)
theorem qz1145 : Cond.instanceMethod yX11_windows ∈ TB := tb_of (List.mem_append_right _ (List.mem_append_right _ (List.mem_append_right _ (List.mem_append_right _ (List.mem_append_right _ (List.mem_append_left _ (List.mem_of_getElem? (i := 185) rfl))))))) (by decide +kernel)
theorem qz1146 : Cond.selects RX11 yX11_windows yX11_windows ∈ TB := tb_of (List.mem_append_right _ (List.mem_append_right _ (List.mem_append_right _ (List.mem_append_right _ (List.mem_append_right _ (List.mem_append_left _ (List.mem_of_getElem? (i := 186) rfl))))))) (by decide +kernel)
theorem qz1953 : Cond.code yX12_windows cX12_windows 4 (some .int) ∈ TB := tb_of (List.mem_append_right _ (List.mem_append_right _ (List.mem_append_right _ (List.mem_append_right _ (List.mem_append_right _ (List.mem_append_right _ (List.mem_append_right _ (List.mem_append_right _ (List.mem_append_right _ (List.mem_of_getElem? (i := 33) rfl)))))))))) (by decide +kernel)
theorem qz1950 : Cond.methodLink RL 153 yX12_windows ∈ TB := tb_of (List.mem_append_right _ (List.mem_append_right _ (List.mem_append_right _ (List.mem_append_right _ (List.mem_append_right _ (List.mem_append_right _ (List.mem_append_right _ (List.mem_append_right _ (List.mem_append_right _ (List.mem_of_getElem? (i := 30) rfl)))))))))) (by decide +kernel)
theorem qz1951 : Cond.instanceMethod yX12_windows ∈ TB := tb_of (List.mem_append_right _ (List.mem_append_right _ (List.mem_append_right _ (List.mem_append_right _ (List.mem_append_right _ (List.mem_append_right _ (List.mem_append_right _ (List.mem_append_right _ (List.mem_append_right _ (List.mem_of_getElem? (i := 31) rfl)))))))))) (by decide +kernel)
theorem qz1952 : Cond.selects RX12 yX12_windows yX12_windows ∈ TB := tb_of (List.mem_append_right _ (List.mem_append_right _ (List.mem_append_right _ (List.mem_append_right _ (List.mem_append_right _ (List.mem_append_right _ (List.mem_append_right _ (List.mem_append_right _ (List.mem_append_right _ (List.mem_of_getElem? (i := 32) rfl)))))))))) (by decide +kernel)
theorem qz1163 : Cond.code yX11_shortest cX11_shortest 4 (some .int) ∈ TB := tb_of (List.mem_append_right _ (List.mem_append_right _ (List.mem_append_right _ (List.mem_append_right _ (List.mem_append_right _ (List.mem_append_left _ (List.mem_of_getElem? (i := 203) rfl))))))) (by decide +kernel)
theorem qz1160 : Cond.methodLink RL 154 yX11_shortest ∈ TB := tb_of (List.mem_append_right _ (List.mem_append_right _ (List.mem_append_right _ (List.mem_append_right _ (List.mem_append_right _ (List.mem_append_left _ (List.mem_of_getElem? (i := 200) rfl))))))) (by decide +kernel)
theorem qz1161 : Cond.instanceMethod yX11_shortest ∈ TB := tb_of (List.mem_append_right _ (List.mem_append_right _ (List.mem_append_right _ (List.mem_append_right _ (List.mem_append_right _ (List.mem_append_left _ (List.mem_of_getElem? (i := 201) rfl))))))) (by decide +kernel)
theorem qz1162 : Cond.selects RX11 yX11_shortest yX11_shortest ∈ TB := tb_of (List.mem_append_right _ (List.mem_append_right _ (List.mem_append_right _ (List.mem_append_right _ (List.mem_append_right _ (List.mem_append_left _ (List.mem_of_getElem? (i := 202) rfl))))))) (by decide +kernel)
theorem qz1965 : Cond.code yX12_shortest cX12_shortest 4 (some .int) ∈ TB := tb_of (List.mem_append_right _ (List.mem_append_right _ (List.mem_append_right _ (List.mem_append_right _ (List.mem_append_right _ (List.mem_append_right _ (List.mem_append_right _ (List.mem_append_right _ (List.mem_append_right _ (List.mem_of_getElem? (i := 45) rfl)))))))))) (by decide +kernel)
theorem qz1962 : Cond.methodLink RL 157 yX12_shortest ∈ TB := tb_of (List.mem_append_right _ (List.mem_append_right _ (List.mem_append_right _ (List.mem_append_right _ (List.mem_append_right _ (List.mem_append_right _ (List.mem_append_right _ (List.mem_append_right _ (List.mem_append_right _ (List.mem_of_getElem? (i := 42) rfl)))))))))) (by decide +kernel)
theorem qz1963 : Cond.instanceMethod yX12_shortest ∈ TB := tb_of (List.mem_append_right _ (List.mem_append_right _ (List.mem_append_right _ (List.mem_append_right _ (List.mem_append_right _ (List.mem_append_right _ (List.mem_append_right _ (List.mem_append_right _ (List.mem_append_right _ (List.mem_of_getElem? (i := 43) rfl)))))))))) (by decide +kernel)
theorem qz1964 : Cond.selects RX12 yX12_shortest yX12_shortest ∈ TB := tb_of (List.mem_append_right _ (List.mem_append_right _ (List.mem_append_right _ (List.mem_append_right _ (List.mem_append_right _ (List.mem_append_right _ (List.mem_append_right _ (List.mem_append_right _ (List.mem_append_right _ (List.mem_of_getElem? (i := 44) rfl)))))))))) (by decide +kernel)
theorem qz1171 : Cond.code yX11_drawn cX11_drawn 3 (some .int) ∈ TB := tb_of (List.mem_append_right _ (List.mem_append_right _ (List.mem_append_right _ (List.mem_append_right _ (List.mem_append_right _ (List.mem_append_left _ (List.mem_of_getElem? (i := 211) rfl))))))) (by decide +kernel)
theorem qz1168 : Cond.methodLink RL 158 yX11_drawn ∈ TB := tb_of (List.mem_append_right _ (List.mem_append_right _ (List.mem_append_right _ (List.mem_append_right _ (List.mem_append_right _ (List.mem_append_left _ (List.mem_of_getElem? (i := 208) rfl))))))) (by decide +kernel)
theorem qz1169 : Cond.instanceMethod yX11_drawn ∈ TB := tb_of (List.mem_append_right _ (List.mem_append_right _ (List.mem_append_right _ (List.mem_append_right _ (List.mem_append_right _ (List.mem_append_left _ (List.mem_of_getElem? (i := 209) rfl))))))) (by decide +kernel)
theorem qz1170 : Cond.selects RX11 yX11_drawn yX11_drawn ∈ TB := tb_of (List.mem_append_right _ (List.mem_append_right _ (List.mem_append_right _ (List.mem_append_right _ (List.mem_append_right _ (List.mem_append_left _ (List.mem_of_getElem? (i := 210) rfl))))))) (by decide +kernel)
theorem qz1969 : Cond.code yX12_drawn cX12_drawn 3 (some .int) ∈ TB := tb_of (List.mem_append_right _ (List.mem_append_right _ (List.mem_append_right _ (List.mem_append_right _ (List.mem_append_right _ (List.mem_append_right _ (List.mem_append_right _ (List.mem_append_right _ (List.mem_append_right _ (List.mem_of_getElem? (i := 49) rfl)))))))))) (by decide +kernel)
theorem qz1966 : Cond.methodLink RL 161 yX12_drawn ∈ TB := tb_of (List.mem_append_right _ (List.mem_append_right _ (List.mem_append_right _ (List.mem_append_right _ (List.mem_append_right _ (List.mem_append_right _ (List.mem_append_right _ (List.mem_append_right _ (List.mem_append_right _ (List.mem_of_getElem? (i := 46) rfl)))))))))) (by decide +kernel)
theorem qz1967 : Cond.instanceMethod yX12_drawn ∈ TB := tb_of (List.mem_append_right _ (List.mem_append_right _ (List.mem_append_right _ (List.mem_append_right _ (List.mem_append_right _ (List.mem_append_right _ (List.mem_append_right _ (List.mem_append_right _ (List.mem_append_right _ (List.mem_of_getElem? (i := 47) rfl)))))))))) (by decide +kernel)
theorem qz1968 : Cond.selects RX12 yX12_drawn yX12_drawn ∈ TB := tb_of (List.mem_append_right _ (List.mem_append_right _ (List.mem_append_right _ (List.mem_append_right _ (List.mem_append_right _ (List.mem_append_right _ (List.mem_append_right _ (List.mem_append_right _ (List.mem_append_right _ (List.mem_of_getElem? (i := 48) rfl)))))))))) (by decide +kernel)
theorem qz1194 : Cond.code yX11_odds cX11_odds 6 (some .int) ∈ TB := tb_of (List.mem_append_right _ (List.mem_append_right _ (List.mem_append_right _ (List.mem_append_right _ (List.mem_append_right _ (List.mem_append_left _ (List.mem_of_getElem? (i := 234) rfl))))))) (by decide +kernel)
theorem qz1191 : Cond.methodLink RL 162 yX11_odds ∈ TB := tb_of (List.mem_append_right _ (List.mem_append_right _ (List.mem_append_right _ (List.mem_append_right _ (List.mem_append_right _ (List.mem_append_left _ (List.mem_of_getElem? (i := 231) rfl))))))) (by decide +kernel)
theorem qz1192 : Cond.instanceMethod yX11_odds ∈ TB := tb_of (List.mem_append_right _ (List.mem_append_right _ (List.mem_append_right _ (List.mem_append_right _ (List.mem_append_right _ (List.mem_append_left _ (List.mem_of_getElem? (i := 232) rfl))))))) (by decide +kernel)
theorem qz1193 : Cond.selects RX11 yX11_odds yX11_odds ∈ TB := tb_of (List.mem_append_right _ (List.mem_append_right _ (List.mem_append_right _ (List.mem_append_right _ (List.mem_append_right _ (List.mem_append_left _ (List.mem_of_getElem? (i := 233) rfl))))))) (by decide +kernel)
theorem qz1982 : Cond.code yX12_odds cX12_odds 6 (some .int) ∈ TB := tb_of (List.mem_append_right _ (List.mem_append_right _ (List.mem_append_right _ (List.mem_append_right _ (List.mem_append_right _ (List.mem_append_right _ (List.mem_append_right _ (List.mem_append_right _ (List.mem_append_right _ (List.mem_of_getElem? (i := 62) rfl)))))))))) (by decide +kernel)
theorem qz1979 : Cond.methodLink RL 165 yX12_odds ∈ TB := tb_of (List.mem_append_right _ (List.mem_append_right _ (List.mem_append_right _ (List.mem_append_right _ (List.mem_append_right _ (List.mem_append_right _ (List.mem_append_right _ (List.mem_append_right _ (List.mem_append_right _ (List.mem_of_getElem? (i := 59) rfl)))))))))) (by decide +kernel)
theorem qz1980 : Cond.instanceMethod yX12_odds ∈ TB := tb_of (List.mem_append_right _ (List.mem_append_right _ (List.mem_append_right _ (List.mem_append_right _ (List.mem_append_right _ (List.mem_append_right _ (List.mem_append_right _ (List.mem_append_right _ (List.mem_append_right _ (List.mem_of_getElem? (i := 60) rfl)))))))))) (by decide +kernel)
theorem qz1981 : Cond.selects RX12 yX12_odds yX12_odds ∈ TB := tb_of (List.mem_append_right _ (List.mem_append_right _ (List.mem_append_right _ (List.mem_append_right _ (List.mem_append_right _ (List.mem_append_right _ (List.mem_append_right _ (List.mem_append_right _ (List.mem_append_right _ (List.mem_of_getElem? (i := 61) rfl)))))))))) (by decide +kernel)
theorem qz1206 : Cond.code yX11_daybook cX11_daybook 3 (some .int) ∈ TB := tb_of (List.mem_append_right _ (List.mem_append_right _ (List.mem_append_right _ (List.mem_append_right _ (List.mem_append_right _ (List.mem_append_right _ (List.mem_append_left _ (List.mem_of_getElem? (i := 6) rfl)))))))) (by decide +kernel)
theorem qz1203 : Cond.methodLink RL 166 yX11_daybook ∈ TB := tb_of (List.mem_append_right _ (List.mem_append_right _ (List.mem_append_right _ (List.mem_append_right _ (List.mem_append_right _ (List.mem_append_right _ (List.mem_append_left _ (List.mem_of_getElem? (i := 3) rfl)))))))) (by decide +kernel)
theorem qz1204 : Cond.instanceMethod yX11_daybook ∈ TB := tb_of (List.mem_append_right _ (List.mem_append_right _ (List.mem_append_right _ (List.mem_append_right _ (List.mem_append_right _ (List.mem_append_right _ (List.mem_append_left _ (List.mem_of_getElem? (i := 4) rfl)))))))) (by decide +kernel)
theorem qz1205 : Cond.selects RX11 yX11_daybook yX11_daybook ∈ TB := tb_of (List.mem_append_right _ (List.mem_append_right _ (List.mem_append_right _ (List.mem_append_right _ (List.mem_append_right _ (List.mem_append_right _ (List.mem_append_left _ (List.mem_of_getElem? (i := 5) rfl)))))))) (by decide +kernel)
theorem qz1994 : Cond.code yX12_daybook cX12_daybook 4 (some .int) ∈ TB := tb_of (List.mem_append_right _ (List.mem_append_right _ (List.mem_append_right _ (List.mem_append_right _ (List.mem_append_right _ (List.mem_append_right _ (List.mem_append_right _ (List.mem_append_right _ (List.mem_append_right _ (List.mem_of_getElem? (i := 74) rfl)))))))))) (by decide +kernel)
theorem qz1991 : Cond.methodLink RL 169 yX12_daybook ∈ TB := tb_of (List.mem_append_right _ (List.mem_append_right _ (List.mem_append_right _ (List.mem_append_right _ (List.mem_append_right _ (List.mem_append_right _ (List.mem_append_right _ (List.mem_append_right _ (List.mem_append_right _ (List.mem_of_getElem? (i := 71) rfl)))))))))) (by decide +kernel)
theorem qz1992 : Cond.instanceMethod yX12_daybook ∈ TB := tb_of (List.mem_append_right _ (List.mem_append_right _ (List.mem_append_right _ (List.mem_append_right _ (List.mem_append_right _ (List.mem_append_right _ (List.mem_append_right _ (List.mem_append_right _ (List.mem_append_right _ (List.mem_of_getElem? (i := 72) rfl)))))))))) (by decide +kernel)
theorem qz1993 : Cond.selects RX12 yX12_daybook yX12_daybook ∈ TB := tb_of (List.mem_append_right _ (List.mem_append_right _ (List.mem_append_right _ (List.mem_append_right _ (List.mem_append_right _ (List.mem_append_right _ (List.mem_append_right _ (List.mem_append_right _ (List.mem_append_right _ (List.mem_of_getElem? (i := 73) rfl)))))))))) (by decide +kernel)
theorem qz1253 : Cond.code yX11_booked cX11_booked 2 (some .int) ∈ TB := tb_of (List.mem_append_right _ (List.mem_append_right _ (List.mem_append_right _ (List.mem_append_right _ (List.mem_append_right _ (List.mem_append_right _ (List.mem_append_left _ (List.mem_of_getElem? (i := 53) rfl)))))))) (by decide +kernel)
theorem qz1250 : Cond.methodLink RL 170 yX11_booked ∈ TB := tb_of (List.mem_append_right _ (List.mem_append_right _ (List.mem_append_right _ (List.mem_append_right _ (List.mem_append_right _ (List.mem_append_right _ (List.mem_append_left _ (List.mem_of_getElem? (i := 50) rfl)))))))) (by decide +kernel)
theorem qz1251 : Cond.instanceMethod yX11_booked ∈ TB := tb_of (List.mem_append_right _ (List.mem_append_right _ (List.mem_append_right _ (List.mem_append_right _ (List.mem_append_right _ (List.mem_append_right _ (List.mem_append_left _ (List.mem_of_getElem? (i := 51) rfl)))))))) (by decide +kernel)
theorem qz1252 : Cond.selects RX11 yX11_booked yX11_booked ∈ TB := tb_of (List.mem_append_right _ (List.mem_append_right _ (List.mem_append_right _ (List.mem_append_right _ (List.mem_append_right _ (List.mem_append_right _ (List.mem_append_left _ (List.mem_of_getElem? (i := 52) rfl)))))))) (by decide +kernel)
theorem qz2007 : Cond.code yX12_booked cX12_booked 2 (some .int) ∈ TB := tb_of (List.mem_append_right _ (List.mem_append_right _ (List.mem_append_right _ (List.mem_append_right _ (List.mem_append_right _ (List.mem_append_right _ (List.mem_append_right _ (List.mem_append_right _ (List.mem_append_right _ (List.mem_of_getElem? (i := 87) rfl)))))))))) (by decide +kernel)
theorem qz2004 : Cond.methodLink RL 173 yX12_booked ∈ TB := tb_of (List.mem_append_right _ (List.mem_append_right _ (List.mem_append_right _ (List.mem_append_right _ (List.mem_append_right _ (List.mem_append_right _ (List.mem_append_right _ (List.mem_append_right _ (List.mem_append_right _ (List.mem_of_getElem? (i := 84) rfl)))))))))) (by decide +kernel)
theorem qz2005 : Cond.instanceMethod yX12_booked ∈ TB := tb_of (List.mem_append_right _ (List.mem_append_right _ (List.mem_append_right _ (List.mem_append_right _ (List.mem_append_right _ (List.mem_append_right _ (List.mem_append_right _ (List.mem_append_right _ (List.mem_append_right _ (List.mem_of_getElem? (i := 85) rfl)))))))))) (by decide +kernel)
theorem qz2006 : Cond.selects RX12 yX12_booked yX12_booked ∈ TB := tb_of (List.mem_append_right _ (List.mem_append_right _ (List.mem_append_right _ (List.mem_append_right _ (List.mem_append_right _ (List.mem_append_right _ (List.mem_append_right _ (List.mem_append_right _ (List.mem_append_right _ (List.mem_of_getElem? (i := 86) rfl)))))))))) (by decide +kernel)
theorem qz1257 : Cond.code yX11_sentence cX11_sentence 2 (some .int) ∈ TB := tb_of (List.mem_append_right _ (List.mem_append_right _ (List.mem_append_right _ (List.mem_append_right _ (List.mem_append_right _ (List.mem_append_right _ (List.mem_append_left _ (List.mem_of_getElem? (i := 57) rfl)))))))) (by decide +kernel)
theorem qz1254 : Cond.methodLink RL 174 yX11_sentence ∈ TB := tb_of (List.mem_append_right _ (List.mem_append_right _ (List.mem_append_right _ (List.mem_append_right _ (List.mem_append_right _ (List.mem_append_right _ (List.mem_append_left _ (List.mem_of_getElem? (i := 54) rfl)))))))) (by decide +kernel)
theorem qz1255 : Cond.instanceMethod yX11_sentence ∈ TB := tb_of (List.mem_append_right _ (List.mem_append_right _ (List.mem_append_right _ (List.mem_append_right _ (List.mem_append_right _ (List.mem_append_right _ (List.mem_append_left _ (List.mem_of_getElem? (i := 55) rfl)))))))) (by decide +kernel)
theorem qz1256 : Cond.selects RX11 yX11_sentence yX11_sentence ∈ TB := tb_of (List.mem_append_right _ (List.mem_append_right _ (List.mem_append_right _ (List.mem_append_right _ (List.mem_append_right _ (List.mem_append_right _ (List.mem_append_left _ (List.mem_of_getElem? (i := 56) rfl)))))))) (by decide +kernel)
theorem qz2011 : Cond.code yX12_sentence cX12_sentence 3 (some .int) ∈ TB := tb_of (List.mem_append_right _ (List.mem_append_right _ (List.mem_append_right _ (List.mem_append_right _ (List.mem_append_right _ (List.mem_append_right _ (List.mem_append_right _ (List.mem_append_right _ (List.mem_append_right _ (List.mem_of_getElem? (i := 91) rfl)))))))))) (by decide +kernel)
theorem qz2008 : Cond.methodLink RL 177 yX12_sentence ∈ TB := tb_of (List.mem_append_right _ (List.mem_append_right _ (List.mem_append_right _ (List.mem_append_right _ (List.mem_append_right _ (List.mem_append_right _ (List.mem_append_right _ (List.mem_append_right _ (List.mem_append_right _ (List.mem_of_getElem? (i := 88) rfl)))))))))) (by decide +kernel)
theorem qz2009 : Cond.instanceMethod yX12_sentence ∈ TB := tb_of (List.mem_append_right _ (List.mem_append_right _ (List.mem_append_right _ (List.mem_append_right _ (List.mem_append_right _ (List.mem_append_right _ (List.mem_append_right _ (List.mem_append_right _ (List.mem_append_right _ (List.mem_of_getElem? (i := 89) rfl)))))))))) (by decide +kernel)
theorem qz2010 : Cond.selects RX12 yX12_sentence yX12_sentence ∈ TB := tb_of (List.mem_append_right _ (List.mem_append_right _ (List.mem_append_right _ (List.mem_append_right _ (List.mem_append_right _ (List.mem_append_right _ (List.mem_append_right _ (List.mem_append_right _ (List.mem_append_right _ (List.mem_of_getElem? (i := 90) rfl)))))))))) (by decide +kernel)
theorem qz1317 : Cond.code yX11_said cX11_said 4 (some .int) ∈ TB := tb_of (List.mem_append_right _ (List.mem_append_right _ (List.mem_append_right _ (List.mem_append_right _ (List.mem_append_right _ (List.mem_append_right _ (List.mem_append_left _ (List.mem_of_getElem? (i := 117) rfl)))))))) (by decide +kernel)
theorem qz1314 : Cond.methodLink RL 178 yX11_said ∈ TB := tb_of (List.mem_append_right _ (List.mem_append_right _ (List.mem_append_right _ (List.mem_append_right _ (List.mem_append_right _ (List.mem_append_right _ (List.mem_append_left _ (List.mem_of_getElem? (i := 114) rfl)))))))) (by decide +kernel)
theorem qz1315 : Cond.instanceMethod yX11_said ∈ TB := tb_of (List.mem_append_right _ (List.mem_append_right _ (List.mem_append_right _ (List.mem_append_right _ (List.mem_append_right _ (List.mem_append_right _ (List.mem_append_left _ (List.mem_of_getElem? (i := 115) rfl)))))))) (by decide +kernel)
theorem qz1316 : Cond.selects RX11 yX11_said yX11_said ∈ TB := tb_of (List.mem_append_right _ (List.mem_append_right _ (List.mem_append_right _ (List.mem_append_right _ (List.mem_append_right _ (List.mem_append_right _ (List.mem_append_left _ (List.mem_of_getElem? (i := 116) rfl)))))))) (by decide +kernel)
theorem qz2039 : Cond.code yX12_said cX12_said 4 (some .int) ∈ TB := tb_of (List.mem_append_right _ (List.mem_append_right _ (List.mem_append_right _ (List.mem_append_right _ (List.mem_append_right _ (List.mem_append_right _ (List.mem_append_right _ (List.mem_append_right _ (List.mem_append_right _ (List.mem_of_getElem? (i := 119) rfl)))))))))) (by decide +kernel)
theorem qz2036 : Cond.methodLink RL 181 yX12_said ∈ TB := tb_of (List.mem_append_right _ (List.mem_append_right _ (List.mem_append_right _ (List.mem_append_right _ (List.mem_append_right _ (List.mem_append_right _ (List.mem_append_right _ (List.mem_append_right _ (List.mem_append_right _ (List.mem_of_getElem? (i := 116) rfl)))))))))) (by decide +kernel)
theorem qz2037 : Cond.instanceMethod yX12_said ∈ TB := tb_of (List.mem_append_right _ (List.mem_append_right _ (List.mem_append_right _ (List.mem_append_right _ (List.mem_append_right _ (List.mem_append_right _ (List.mem_append_right _ (List.mem_append_right _ (List.mem_append_right _ (List.mem_of_getElem? (i := 117) rfl)))))))))) (by decide +kernel)
theorem qz2038 : Cond.selects RX12 yX12_said yX12_said ∈ TB := tb_of (List.mem_append_right _ (List.mem_append_right _ (List.mem_append_right _ (List.mem_append_right _ (List.mem_append_right _ (List.mem_append_right _ (List.mem_append_right _ (List.mem_append_right _ (List.mem_append_right _ (List.mem_of_getElem? (i := 118) rfl)))))))))) (by decide +kernel)
theorem qz1334 : Cond.code yX11_image cX11_image 2 (some .boolean) ∈ TB := tb_of (List.mem_append_right _ (List.mem_append_right _ (List.mem_append_right _ (List.mem_append_right _ (List.mem_append_right _ (List.mem_append_right _ (List.mem_append_left _ (List.mem_of_getElem? (i := 134) rfl)))))))) (by decide +kernel)
theorem qz1331 : Cond.methodLink RL 182 yX11_image ∈ TB := tb_of (List.mem_append_right _ (List.mem_append_right _ (List.mem_append_right _ (List.mem_append_right _ (List.mem_append_right _ (List.mem_append_right _ (List.mem_append_left _ (List.mem_of_getElem? (i := 131) rfl)))))))) (by decide +kernel)
theorem qz1332 : Cond.instanceMethod yX11_image ∈ TB := tb_of (List.mem_append_right _ (List.mem_append_right _ (List.mem_append_right _ (List.mem_append_right _ (List.mem_append_right _ (List.mem_append_right _ (List.mem_append_left _ (List.mem_of_getElem? (i := 132) rfl)))))))) (by decide +kernel)
theorem qz1333 : Cond.selects RX11 yX11_image yX11_image ∈ TB := tb_of (List.mem_append_right _ (List.mem_append_right _ (List.mem_append_right _ (List.mem_append_right _ (List.mem_append_right _ (List.mem_append_right _ (List.mem_append_left _ (List.mem_of_getElem? (i := 133) rfl)))))))) (by decide +kernel)
theorem qz2051 : Cond.code yX12_image cX12_image 3 (some .boolean) ∈ TB := tb_of (List.mem_append_right _ (List.mem_append_right _ (List.mem_append_right _ (List.mem_append_right _ (List.mem_append_right _ (List.mem_append_right _ (List.mem_append_right _ (List.mem_append_right _ (List.mem_append_right _ (List.mem_of_getElem? (i := 131) rfl)))))))))) (by decide +kernel)
theorem qz2048 : Cond.methodLink RL 185 yX12_image ∈ TB := tb_of (List.mem_append_right _ (List.mem_append_right _ (List.mem_append_right _ (List.mem_append_right _ (List.mem_append_right _ (List.mem_append_right _ (List.mem_append_right _ (List.mem_append_right _ (List.mem_append_right _ (List.mem_of_getElem? (i := 128) rfl)))))))))) (by decide +kernel)
theorem qz2049 : Cond.instanceMethod yX12_image ∈ TB := tb_of (List.mem_append_right _ (List.mem_append_right _ (List.mem_append_right _ (List.mem_append_right _ (List.mem_append_right _ (List.mem_append_right _ (List.mem_append_right _ (List.mem_append_right _ (List.mem_append_right _ (List.mem_of_getElem? (i := 129) rfl)))))))))) (by decide +kernel)
theorem qz2050 : Cond.selects RX12 yX12_image yX12_image ∈ TB := tb_of (List.mem_append_right _ (List.mem_append_right _ (List.mem_append_right _ (List.mem_append_right _ (List.mem_append_right _ (List.mem_append_right _ (List.mem_append_right _ (List.mem_append_right _ (List.mem_append_right _ (List.mem_of_getElem? (i := 130) rfl)))))))))) (by decide +kernel)
theorem qz1345 : Cond.code yX11_restore cX11_restore 2 (some .boolean) ∈ TB := tb_of (List.mem_append_right _ (List.mem_append_right _ (List.mem_append_right _ (List.mem_append_right _ (List.mem_append_right _ (List.mem_append_right _ (List.mem_append_left _ (List.mem_of_getElem? (i := 145) rfl)))))))) (by decide +kernel)
theorem qz1342 : Cond.methodLink RL 186 yX11_restore ∈ TB := tb_of (List.mem_append_right _ (List.mem_append_right _ (List.mem_append_right _ (List.mem_append_right _ (List.mem_append_right _ (List.mem_append_right _ (List.mem_append_left _ (List.mem_of_getElem? (i := 142) rfl)))))))) (by decide +kernel)
theorem qz1343 : Cond.instanceMethod yX11_restore ∈ TB := tb_of (List.mem_append_right _ (List.mem_append_right _ (List.mem_append_right _ (List.mem_append_right _ (List.mem_append_right _ (List.mem_append_right _ (List.mem_append_left _ (List.mem_of_getElem? (i := 143) rfl)))))))) (by decide +kernel)
theorem qz1344 : Cond.selects RX11 yX11_restore yX11_restore ∈ TB := tb_of (List.mem_append_right _ (List.mem_append_right _ (List.mem_append_right _ (List.mem_append_right _ (List.mem_append_right _ (List.mem_append_right _ (List.mem_append_left _ (List.mem_of_getElem? (i := 144) rfl)))))))) (by decide +kernel)
theorem qz2055 : Cond.code yX12_restore cX12_restore 3 (some .boolean) ∈ TB := tb_of (List.mem_append_right _ (List.mem_append_right _ (List.mem_append_right _ (List.mem_append_right _ (List.mem_append_right _ (List.mem_append_right _ (List.mem_append_right _ (List.mem_append_right _ (List.mem_append_right _ (List.mem_of_getElem? (i := 135) rfl)))))))))) (by decide +kernel)
theorem qz2052 : Cond.methodLink RL 189 yX12_restore ∈ TB := tb_of (List.mem_append_right _ (List.mem_append_right _ (List.mem_append_right _ (List.mem_append_right _ (List.mem_append_right _ (List.mem_append_right _ (List.mem_append_right _ (List.mem_append_right _ (List.mem_append_right _ (List.mem_of_getElem? (i := 132) rfl)))))))))) (by decide +kernel)
theorem qz2053 : Cond.instanceMethod yX12_restore ∈ TB := tb_of (List.mem_append_right _ (List.mem_append_right _ (List.mem_append_right _ (List.mem_append_right _ (List.mem_append_right _ (List.mem_append_right _ (List.mem_append_right _ (List.mem_append_right _ (List.mem_append_right _ (List.mem_of_getElem? (i := 133) rfl)))))))))) (by decide +kernel)
theorem qz2054 : Cond.selects RX12 yX12_restore yX12_restore ∈ TB := tb_of (List.mem_append_right _ (List.mem_append_right _ (List.mem_append_right _ (List.mem_append_right _ (List.mem_append_right _ (List.mem_append_right _ (List.mem_append_right _ (List.mem_append_right _ (List.mem_append_right _ (List.mem_of_getElem? (i := 134) rfl)))))))))) (by decide +kernel)
theorem qz1353 : Cond.code yX11_count cX11_count 2 (some .int) ∈ TB := tb_of (List.mem_append_right _ (List.mem_append_right _ (List.mem_append_right _ (List.mem_append_right _ (List.mem_append_right _ (List.mem_append_right _ (List.mem_append_left _ (List.mem_of_getElem? (i := 153) rfl)))))))) (by decide +kernel)
theorem qz1350 : Cond.methodLink RL 190 yX11_count ∈ TB := tb_of (List.mem_append_right _ (List.mem_append_right _ (List.mem_append_right _ (List.mem_append_right _ (List.mem_append_right _ (List.mem_append_right _ (List.mem_append_left _ (List.mem_of_getElem? (i := 150) rfl)))))))) (by decide +kernel)
theorem qz1351 : Cond.instanceMethod yX11_count ∈ TB := tb_of (List.mem_append_right _ (List.mem_append_right _ (List.mem_append_right _ (List.mem_append_right _ (List.mem_append_right _ (List.mem_append_right _ (List.mem_append_left _ (List.mem_of_getElem? (i := 151) rfl)))))))) (by decide +kernel)
theorem qz1352 : Cond.selects RX11 yX11_count yX11_count ∈ TB := tb_of (List.mem_append_right _ (List.mem_append_right _ (List.mem_append_right _ (List.mem_append_right _ (List.mem_append_right _ (List.mem_append_right _ (List.mem_append_left _ (List.mem_of_getElem? (i := 152) rfl)))))))) (by decide +kernel)
theorem qz2059 : Cond.code yX12_count cX12_count 2 (some .int) ∈ TB := tb_of (List.mem_append_right _ (List.mem_append_right _ (List.mem_append_right _ (List.mem_append_right _ (List.mem_append_right _ (List.mem_append_right _ (List.mem_append_right _ (List.mem_append_right _ (List.mem_append_right _ (List.mem_of_getElem? (i := 139) rfl)))))))))) (by decide +kernel)
theorem qz2056 : Cond.methodLink RL 193 yX12_count ∈ TB := tb_of (List.mem_append_right _ (List.mem_append_right _ (List.mem_append_right _ (List.mem_append_right _ (List.mem_append_right _ (List.mem_append_right _ (List.mem_append_right _ (List.mem_append_right _ (List.mem_append_right _ (List.mem_of_getElem? (i := 136) rfl)))))))))) (by decide +kernel)
theorem qz2057 : Cond.instanceMethod yX12_count ∈ TB := tb_of (List.mem_append_right _ (List.mem_append_right _ (List.mem_append_right _ (List.mem_append_right _ (List.mem_append_right _ (List.mem_append_right _ (List.mem_append_right _ (List.mem_append_right _ (List.mem_append_right _ (List.mem_of_getElem? (i := 137) rfl)))))))))) (by decide +kernel)
theorem qz2058 : Cond.selects RX12 yX12_count yX12_count ∈ TB := tb_of (List.mem_append_right _ (List.mem_append_right _ (List.mem_append_right _ (List.mem_append_right _ (List.mem_append_right _ (List.mem_append_right _ (List.mem_append_right _ (List.mem_append_right _ (List.mem_append_right _ (List.mem_of_getElem? (i := 138) rfl)))))))))) (by decide +kernel)
set_option maxHeartbeats 1000000 in
theorem law_c0 {p : Program} {l : Launch} {e : Env} {s : State} {m : MethodId} {below : List Frame} {meth : Method} {c : Code} {dC : Nat → ClassId} {dI : Nat → Nat → Nat} {cA : Nat → ClassId} {b L ax bm o j nF : Nat} {xs : Nat → Int32} {i : Int32} {ad : Nat → Nat} {u : ac_U} {H : Heap} {locs : List Loc} {ls : Array Slot} {Q : State → Prop} (F : ac_X p s m #[.ref b] c cL_law RL TB (dC, dI) vwCl (ac_ty cA)) (hml : c.maxLocals = 7) (hX : va_X b L xs s s.heap) (hbl : b < s.heap.size) (hL : L ≤ 3072) (hi : i.toInt = 6 * (j : Int)) (hj : 6 * j + 6 ≤ L) (hG : lw_I (dC, dI) cA ax bm o (fun q => s.heap.size ≤ q) nF ad u H) (hS : va_S (fun q => s.heap.size ≤ q) s.heap H locs) (hl : lv_has ls 7 [(4, .int i), (3, .ref o), (2, .ref bm), (1, .ref ax), (0, .ref b)])
    (KK : ∀ (nF : Nat) (ad : Nat → Nat) (u : ac_U) (H : Heap) (locs : List Loc) (ls : Array Slot), lw_I (dC, dI) cA ax bm o (fun q => s.heap.size ≤ q) nF ad u H → va_S (fun q => s.heap.size ≤ q) s.heap H locs → lv_has ls 7 [(4, .int i), (3, .ref o), (2, .ref bm), (1, .ref ax), (0, .ref b)] → W p l e room_1 s m #[.ref b] below meth c H locs (cN nF (j + 1)) (sN nF (j + 1)) Q (F0 m 1481 ls [])) : W p l e room_1 s m #[.ref b] below meth c H locs (cN nF j) (sN nF j) Q (F0 m 224 ls []) := by
  obtain ⟨hn, rfl, rfl, hN, ⟨hI, hE, hH, hT, hM⟩, hP, hD, fo, hO⟩ := hG
  have hA : ∀ q : Nat, s.heap.size ≤ q → (fun q : Nat => s.heap.size ≤ q) q := fun _ h => h
  have hbA : ¬ (fun q : Nat => s.heap.size ≤ q) b := Nat.not_le.mpr hbl
  have hf : cN nF j ≤ room_1.cells ∧ sN nF j ≤ room_1.slots := by
    have := cN_le (nF := nF) (j := j) hn (by omega)
    omega
  have hI0 := hI
  have hE0 := hE
  have hH0 := hH
  have hT0 := hT
  have hM0 := hM
  refine lv_aload_n F.1 F.2.1 dL_law_224 rfl (lv_at hl 3 rfl) ?_
  refine lv_aload_n F.1 F.2.1 dL_law_225 rfl (lv_at hl 4 rfl) ?_
  refine lv_iload F.1 F.2.1 dL_law_226 (lv_at hl 0 rfl) ?_
  refine a_ic F (1 : Int32) dL_law_228 (by decide) ?_
  refine a_iadd F dL_law_229 hi ic_1 (by omega) (fun v1 hv1 => ?_)
  refine va_sld F.1 F.2.1 hX hbl hbA hS (i_in hv1 (by omega)) dL_law_230 ?_
  refine lv_aload_n F.1 F.2.1 dL_law_231 rfl (lv_at hl 4 rfl) ?_
  refine lv_iload F.1 F.2.1 dL_law_232 (lv_at hl 0 rfl) ?_
  refine a_ic F (2 : Int32) dL_law_234 (by decide) ?_
  refine a_iadd F dL_law_235 hi ic_2 (by omega) (fun v2 hv2 => ?_)
  refine va_sld F.1 F.2.1 hX hbl hbA hS (i_in hv2 (by omega)) dL_law_236 ?_
  refine lv_aload_n F.1 F.2.1 dL_law_237 rfl (lv_at hl 4 rfl) ?_
  refine lv_iload F.1 F.2.1 dL_law_238 (lv_at hl 0 rfl) ?_
  refine a_ic F (3 : Int32) dL_law_240 (by decide) ?_
  refine a_iadd F dL_law_241 hi ic_3 (by omega) (fun v3 hv3 => ?_)
  refine va_sld F.1 F.2.1 hX hbl hbA hS (i_in hv3 (by omega)) dL_law_242 ?_
  refine lv_aload_n F.1 F.2.1 dL_law_243 rfl (lv_at hl 4 rfl) ?_
  refine lv_iload F.1 F.2.1 dL_law_244 (lv_at hl 0 rfl) ?_
  refine a_ic F (4 : Int32) dL_law_246 (by decide) ?_
  refine a_iadd F dL_law_247 hi ic_4 (by omega) (fun v4 hv4 => ?_)
  refine va_sld F.1 F.2.1 hX hbl hbA hS (i_in hv4 (by omega)) dL_law_248 ?_
  refine lv_aload_n F.1 F.2.1 dL_law_249 rfl (lv_at hl 4 rfl) ?_
  refine lv_iload F.1 F.2.1 dL_law_250 (lv_at hl 0 rfl) ?_
  refine a_ic F (5 : Int32) dL_law_252 (by decide) ?_
  refine a_iadd F dL_law_253 hi ic_5 (by omega) (fun v5 hv5 => ?_)
  refine va_sld F.1 F.2.1 hX hbl hbA hS (i_in hv5 (by omega)) dL_law_254 ?_
  refine lw_Vi (o := o) (c0 := 0) F hml hl.1 hA hP hD hO hN hS (As := [.int (xs v1.toNatClampNeg), .int (xs v2.toNatClampNeg), .int (xs v3.toNatClampNeg), .int (xs v4.toNatClampNeg), .int (xs v5.toNatClampNeg)]) (x_X11_feed_0 l dC dI ad cA nF u (xs v1.toNatClampNeg) (xs v2.toNatClampNeg) (xs v3.toNatClampNeg) (xs v4.toNatClampNeg) (xs v5.toNatClampNeg) hI.1 ) ⟨callB_of 5 F.2.2.1 (tb_good qz552) rfl rfl rfl (F.2.2.1 _ qz1) (F.2.2.1 _ qz549) (by decide +kernel) (by decide), F.2.2.1 _ qz550, F.2.2.1 _ qz551⟩ tc_0 rfl rfl rfl rfl (Nat.le_of_ble_eq_true rfl) dL_law_255 hf (fun r1 u1 H locs hw hP hD hO hS => ?_)
  have x1_1 : ((-1 : Int) ≤ r1.toInt ∧ r1.toInt ≤ 940) := hw.2.2.1
  have x1_2 : (((u.1 1 2).toInt ≤ 920 → (u1.1 1 2).toInt = (u.1 1 2).toInt + 20 ∧ r1.toInt = (u.1 1 2).toInt + 20) ∧ (920 < (u.1 1 2).toInt → (u1.1 1 2).toInt = (u.1 1 2).toInt ∧ r1.toInt = -1)) := hw.2.2.2.1
  have k1_85_2 : (u1.1 85 2).toInt = (u.1 85 2).toInt := congrArg Int32.toInt (hw.2.1 85 2 rfl)
  have k1_53_4 : (u1.1 53 4).toInt = (u.1 53 4).toInt := congrArg Int32.toInt (hw.2.1 53 4 rfl)
  have k1_54_4 : (u1.1 54 4).toInt = (u.1 54 4).toInt := congrArg Int32.toInt (hw.2.1 54 4 rfl)
  have k1_104_0 : (u1.1 104 0).toInt = (u.1 104 0).toInt := congrArg Int32.toInt (hw.2.1 104 0 rfl)
  have k1_104_1 : (u1.1 104 1).toInt = (u.1 104 1).toInt := congrArg Int32.toInt (hw.2.1 104 1 rfl)
  have hF1 := hw.2.1
  have hx1 : f_X11_feed_0 u (xs v1.toNatClampNeg) (xs v2.toNatClampNeg) (xs v3.toNatClampNeg) (xs v4.toNatClampNeg) (xs v5.toNatClampNeg) = (u1, r1) := hw.2.2.2.2
  have hH : hxI u1 := sp_fr sp_HX hw.2.1 (by decide) hH
  have hM : imI u1 := sp_fr sp_IM hw.2.1 (by decide) hM
  have hI : inv0 u1 := ⟨hw.1, sp_fr (sp_nm 11 12) (hw.2.1) (by decide) (hI.2.1), sp_fr (sp_nm 20 21) (hw.2.1) (by decide) (hI.2.2.1), sp_fr (sp_nm 62 63) (hw.2.1) (by decide) (hI.2.2.2.1), sp_fr (sp_nm 71 72) (hw.2.1) (by decide) (hI.2.2.2.2.1), sp_fr (sp_MS) (hw.2.1) (by decide) (hI.2.2.2.2.2.1), sp_fr (sp_UI) (hw.2.1) (by decide) (hI.2.2.2.2.2.2.1), sp_fr (sp_CW) (hw.2.1) (by decide) (hI.2.2.2.2.2.2.2.1), sp_fr (sp_KI) (hw.2.1) (by decide) (hI.2.2.2.2.2.2.2.2.1), sp_fr (sp_AP) (hw.2.1) (by decide) (hI.2.2.2.2.2.2.2.2.2.1), sp_fr (sp_AU) (hw.2.1) (by decide) (hI.2.2.2.2.2.2.2.2.2.2.1), sp_fr (sp_AK) (hw.2.1) (by decide) (hI.2.2.2.2.2.2.2.2.2.2.2)⟩
  clear hw
  refine lv_pop F.1 F.2.1 dL_law_258 rfl ?_
  refine lv_aload_n F.1 F.2.1 dL_law_259 rfl (lv_at hl 2 rfl) ?_
  refine lv_aload_n F.1 F.2.1 dL_law_260 rfl (lv_at hl 4 rfl) ?_
  refine lv_iload F.1 F.2.1 dL_law_261 (lv_at hl 0 rfl) ?_
  refine a_ic F (1 : Int32) dL_law_263 (by decide) ?_
  refine a_iadd F dL_law_264 hi ic_1 (by omega) (fun v6 hv6 => ?_)
  refine va_sld F.1 F.2.1 hX hbl hbA hS (i_in hv6 (by omega)) dL_law_265 ?_
  refine lv_aload_n F.1 F.2.1 dL_law_266 rfl (lv_at hl 4 rfl) ?_
  refine lv_iload F.1 F.2.1 dL_law_267 (lv_at hl 0 rfl) ?_
  refine a_ic F (2 : Int32) dL_law_269 (by decide) ?_
  refine a_iadd F dL_law_270 hi ic_2 (by omega) (fun v7 hv7 => ?_)
  refine va_sld F.1 F.2.1 hX hbl hbA hS (i_in hv7 (by omega)) dL_law_271 ?_
  refine lv_aload_n F.1 F.2.1 dL_law_272 rfl (lv_at hl 4 rfl) ?_
  refine lv_iload F.1 F.2.1 dL_law_273 (lv_at hl 0 rfl) ?_
  refine a_ic F (3 : Int32) dL_law_275 (by decide) ?_
  refine a_iadd F dL_law_276 hi ic_3 (by omega) (fun v8 hv8 => ?_)
  refine va_sld F.1 F.2.1 hX hbl hbA hS (i_in hv8 (by omega)) dL_law_277 ?_
  refine lv_aload_n F.1 F.2.1 dL_law_278 rfl (lv_at hl 4 rfl) ?_
  refine lv_iload F.1 F.2.1 dL_law_279 (lv_at hl 0 rfl) ?_
  refine a_ic F (4 : Int32) dL_law_281 (by decide) ?_
  refine a_iadd F dL_law_282 hi ic_4 (by omega) (fun v9 hv9 => ?_)
  refine va_sld F.1 F.2.1 hX hbl hbA hS (i_in hv9 (by omega)) dL_law_283 ?_
  refine lv_aload_n F.1 F.2.1 dL_law_284 rfl (lv_at hl 4 rfl) ?_
  refine lv_iload F.1 F.2.1 dL_law_285 (lv_at hl 0 rfl) ?_
  refine a_ic F (5 : Int32) dL_law_287 (by decide) ?_
  refine a_iadd F dL_law_288 hi ic_5 (by omega) (fun v10 hv10 => ?_)
  refine va_sld F.1 F.2.1 hX hbl hbA hS (i_in hv10 (by omega)) dL_law_289 ?_
  have ev6 : v6 = v1 := Int32.toInt_inj.mp (hv6.trans hv1.symm)
  rw [ev6]
  have ev7 : v7 = v2 := Int32.toInt_inj.mp (hv7.trans hv2.symm)
  rw [ev7]
  have ev8 : v8 = v3 := Int32.toInt_inj.mp (hv8.trans hv3.symm)
  rw [ev8]
  have ev9 : v9 = v4 := Int32.toInt_inj.mp (hv9.trans hv4.symm)
  rw [ev9]
  have ev10 : v10 = v5 := Int32.toInt_inj.mp (hv10.trans hv5.symm)
  rw [ev10]
  refine lw_Vi (o := o) (c0 := 85) F hml hl.1 hA hP hD hO hN hS (As := [.int (xs v1.toNatClampNeg), .int (xs v2.toNatClampNeg), .int (xs v3.toNatClampNeg), .int (xs v4.toNatClampNeg), .int (xs v5.toNatClampNeg)]) (x_X12_feed_85 l dC dI ad cA nF u1 (xs v1.toNatClampNeg) (xs v2.toNatClampNeg) (xs v3.toNatClampNeg) (xs v4.toNatClampNeg) (xs v5.toNatClampNeg) hI.1 ) ⟨callB_of 5 F.2.2.1 (tb_good qz1428) rfl rfl rfl (F.2.2.1 _ qz17) (F.2.2.1 _ qz1425) (by decide +kernel) (by decide), F.2.2.1 _ qz1426, F.2.2.1 _ qz1427⟩ tc_85 rfl rfl rfl rfl (Nat.le_of_ble_eq_true rfl) dL_law_290 hf (fun r2 u2 H locs hw hP hD hO hS => ?_)
  have x2_1 : ((-1 : Int) ≤ r2.toInt ∧ r2.toInt ≤ 940) := hw.2.2.1
  have x2_2 : (((u1.1 85 2).toInt ≤ 920 → (u2.1 85 2).toInt = (u1.1 85 2).toInt + 20 ∧ r2.toInt = (u1.1 85 2).toInt + 20) ∧ (920 < (u1.1 85 2).toInt → (u2.1 85 2).toInt = (u1.1 85 2).toInt ∧ r2.toInt = -1)) := hw.2.2.2.1
  have k2_1_2 : (u2.1 1 2).toInt = (u1.1 1 2).toInt := congrArg Int32.toInt (hw.2.1 1 2 rfl)
  have k2_53_4 : (u2.1 53 4).toInt = (u1.1 53 4).toInt := congrArg Int32.toInt (hw.2.1 53 4 rfl)
  have k2_54_4 : (u2.1 54 4).toInt = (u1.1 54 4).toInt := congrArg Int32.toInt (hw.2.1 54 4 rfl)
  have k2_104_0 : (u2.1 104 0).toInt = (u1.1 104 0).toInt := congrArg Int32.toInt (hw.2.1 104 0 rfl)
  have k2_104_1 : (u2.1 104 1).toInt = (u1.1 104 1).toInt := congrArg Int32.toInt (hw.2.1 104 1 rfl)
  have hF2 := hw.2.1
  have hx2 : f_X12_feed_85 u1 (xs v1.toNatClampNeg) (xs v2.toNatClampNeg) (xs v3.toNatClampNeg) (xs v4.toNatClampNeg) (xs v5.toNatClampNeg) = (u2, r2) := hw.2.2.2.2
  have hH : hxI u2 := sp_fr sp_HX hw.2.1 (by decide) hH
  have hM : imI u2 := sp_fr sp_IM hw.2.1 (by decide) hM
  have hI : inv0 u2 := ⟨hw.1, sp_fr (sp_nm 11 12) (hw.2.1) (by decide) (hI.2.1), sp_fr (sp_nm 20 21) (hw.2.1) (by decide) (hI.2.2.1), sp_fr (sp_nm 62 63) (hw.2.1) (by decide) (hI.2.2.2.1), sp_fr (sp_nm 71 72) (hw.2.1) (by decide) (hI.2.2.2.2.1), sp_fr (sp_MS) (hw.2.1) (by decide) (hI.2.2.2.2.2.1), sp_fr (sp_UI) (hw.2.1) (by decide) (hI.2.2.2.2.2.2.1), sp_fr (sp_CW) (hw.2.1) (by decide) (hI.2.2.2.2.2.2.2.1), sp_fr (sp_KI) (hw.2.1) (by decide) (hI.2.2.2.2.2.2.2.2.1), sp_fr (sp_AP) (hw.2.1) (by decide) (hI.2.2.2.2.2.2.2.2.2.1), sp_fr (sp_AU) (hw.2.1) (by decide) (hI.2.2.2.2.2.2.2.2.2.2.1), sp_fr (sp_AK) (hw.2.1) (by decide) (hI.2.2.2.2.2.2.2.2.2.2.2)⟩
  clear hw
  obtain ⟨hE1, hE2, hE3⟩ := hE
  have hE : eqv u2 := ⟨by omega, by omega, by omega⟩
  have hq := tw_feed hF1 hF2 (by decide) (by decide) hx1 hx2 hI0.1 hE0.1 hT
  have hT : byI u2 := hq.2
  refine lv_pop F.1 F.2.1 dL_law_293 rfl ?_
  refine lv_goto (tgt := 1481) F.1 F.2.1 dL_law_294 (by decide) ?_
  exact W.widen cN_up.1 cN_up.2 (KK nF ad _ H locs ls ⟨hn, rfl, rfl, hN, ⟨hI, hE, hH, hT, hM⟩, hP, hD, fo, hO⟩ hS hl)
set_option maxHeartbeats 1000000 in
theorem law_c1 {p : Program} {l : Launch} {e : Env} {s : State} {m : MethodId} {below : List Frame} {meth : Method} {c : Code} {dC : Nat → ClassId} {dI : Nat → Nat → Nat} {cA : Nat → ClassId} {b L ax bm o j nF : Nat} {xs : Nat → Int32} {i : Int32} {ad : Nat → Nat} {u : ac_U} {H : Heap} {locs : List Loc} {ls : Array Slot} {Q : State → Prop} (F : ac_X p s m #[.ref b] c cL_law RL TB (dC, dI) vwCl (ac_ty cA)) (hml : c.maxLocals = 7) (hX : va_X b L xs s s.heap) (hbl : b < s.heap.size) (hL : L ≤ 3072) (hi : i.toInt = 6 * (j : Int)) (hj : 6 * j + 6 ≤ L) (hG : lw_I (dC, dI) cA ax bm o (fun q => s.heap.size ≤ q) nF ad u H) (hS : va_S (fun q => s.heap.size ≤ q) s.heap H locs) (hl : lv_has ls 7 [(4, .int i), (3, .ref o), (2, .ref bm), (1, .ref ax), (0, .ref b)])
    (KK : ∀ (nF : Nat) (ad : Nat → Nat) (u : ac_U) (H : Heap) (locs : List Loc) (ls : Array Slot), lw_I (dC, dI) cA ax bm o (fun q => s.heap.size ≤ q) nF ad u H → va_S (fun q => s.heap.size ≤ q) s.heap H locs → lv_has ls 7 [(4, .int i), (3, .ref o), (2, .ref bm), (1, .ref ax), (0, .ref b)] → W p l e room_1 s m #[.ref b] below meth c H locs (cN nF (j + 1)) (sN nF (j + 1)) Q (F0 m 1481 ls [])) : W p l e room_1 s m #[.ref b] below meth c H locs (cN nF j) (sN nF j) Q (F0 m 297 ls []) := by
  obtain ⟨hn, rfl, rfl, hN, ⟨hI, hE, hH, hT, hM⟩, hP, hD, fo, hO⟩ := hG
  have hA : ∀ q : Nat, s.heap.size ≤ q → (fun q : Nat => s.heap.size ≤ q) q := fun _ h => h
  have hbA : ¬ (fun q : Nat => s.heap.size ≤ q) b := Nat.not_le.mpr hbl
  have hf : cN nF j ≤ room_1.cells ∧ sN nF j ≤ room_1.slots := by
    have := cN_le (nF := nF) (j := j) hn (by omega)
    omega
  have hI0 := hI
  have hE0 := hE
  have hH0 := hH
  have hT0 := hT
  have hM0 := hM
  refine lv_aload_n F.1 F.2.1 dL_law_297 rfl (lv_at hl 3 rfl) ?_
  refine lv_aload_n F.1 F.2.1 dL_law_298 rfl (lv_at hl 4 rfl) ?_
  refine lv_iload F.1 F.2.1 dL_law_299 (lv_at hl 0 rfl) ?_
  refine a_ic F (1 : Int32) dL_law_301 (by decide) ?_
  refine a_iadd F dL_law_302 hi ic_1 (by omega) (fun v1 hv1 => ?_)
  refine va_sld F.1 F.2.1 hX hbl hbA hS (i_in hv1 (by omega)) dL_law_303 ?_
  refine lw_Vi (o := o) (c0 := 0) F hml hl.1 hA hP hD hO hN hS (As := [.int (xs v1.toNatClampNeg)]) (c_X11_end_0__2 l dC dI ad cA nF u (xs v1.toNatClampNeg) hI.1 ) ⟨callB_of 1 F.2.2.1 (tb_good qz560) rfl rfl rfl (F.2.2.1 _ qz1) (F.2.2.1 _ qz557) (by decide +kernel) (by decide), F.2.2.1 _ qz558, F.2.2.1 _ qz559⟩ tc_0 rfl rfl rfl rfl (Nat.le_of_ble_eq_true rfl) dL_law_304 hf (fun r1 u1 H locs hw hP hD hO hS => ?_)
  have x1_1 : ((0 : Int) ≤ r1.toInt ∧ r1.toInt ≤ 1) := hw.2.2.1
  have x1_2 : ((0 ≤ (xs v1.toNatClampNeg).toInt ∧ (xs v1.toNatClampNeg).toInt ≤ (u.1 1 2).toInt → (u1.1 1 2).toInt = (xs v1.toNatClampNeg).toInt ∧ r1.toInt = 1) ∧ ((xs v1.toNatClampNeg).toInt < 0 ∨ (u.1 1 2).toInt < (xs v1.toNatClampNeg).toInt → (u1.1 1 2).toInt = (u.1 1 2).toInt ∧ r1.toInt = 0)) := hw.2.2.2
  have k1_85_2 : (u1.1 85 2).toInt = (u.1 85 2).toInt := congrArg Int32.toInt (hw.2.1 85 2 rfl)
  have k1_53_4 : (u1.1 53 4).toInt = (u.1 53 4).toInt := congrArg Int32.toInt (hw.2.1 53 4 rfl)
  have k1_54_4 : (u1.1 54 4).toInt = (u.1 54 4).toInt := congrArg Int32.toInt (hw.2.1 54 4 rfl)
  have k1_104_0 : (u1.1 104 0).toInt = (u.1 104 0).toInt := congrArg Int32.toInt (hw.2.1 104 0 rfl)
  have k1_104_1 : (u1.1 104 1).toInt = (u.1 104 1).toInt := congrArg Int32.toInt (hw.2.1 104 1 rfl)
  have hH : hxI u1 := sp_fr sp_HX hw.2.1 (by decide) hH
  have hT : byI u1 := by_fr hw.2.1 rfl rfl hT
  have hM : imI u1 := sp_fr sp_IM hw.2.1 (by decide) hM
  have hI : inv0 u1 := ⟨hw.1, sp_fr (sp_nm 11 12) (hw.2.1) (by decide) (hI.2.1), sp_fr (sp_nm 20 21) (hw.2.1) (by decide) (hI.2.2.1), sp_fr (sp_nm 62 63) (hw.2.1) (by decide) (hI.2.2.2.1), sp_fr (sp_nm 71 72) (hw.2.1) (by decide) (hI.2.2.2.2.1), sp_fr (sp_MS) (hw.2.1) (by decide) (hI.2.2.2.2.2.1), sp_fr (sp_UI) (hw.2.1) (by decide) (hI.2.2.2.2.2.2.1), sp_fr (sp_CW) (hw.2.1) (by decide) (hI.2.2.2.2.2.2.2.1), sp_fr (sp_KI) (hw.2.1) (by decide) (hI.2.2.2.2.2.2.2.2.1), sp_fr (sp_AP) (hw.2.1) (by decide) (hI.2.2.2.2.2.2.2.2.2.1), sp_fr (sp_AU) (hw.2.1) (by decide) (hI.2.2.2.2.2.2.2.2.2.2.1), sp_fr (sp_AK) (hw.2.1) (by decide) (hI.2.2.2.2.2.2.2.2.2.2.2)⟩
  clear hw
  refine lv_pop F.1 F.2.1 dL_law_307 rfl ?_
  refine lv_aload_n F.1 F.2.1 dL_law_308 rfl (lv_at hl 2 rfl) ?_
  refine lv_aload_n F.1 F.2.1 dL_law_309 rfl (lv_at hl 4 rfl) ?_
  refine lv_iload F.1 F.2.1 dL_law_310 (lv_at hl 0 rfl) ?_
  refine a_ic F (1 : Int32) dL_law_312 (by decide) ?_
  refine a_iadd F dL_law_313 hi ic_1 (by omega) (fun v2 hv2 => ?_)
  refine va_sld F.1 F.2.1 hX hbl hbA hS (i_in hv2 (by omega)) dL_law_314 ?_
  have ev2 : v2 = v1 := Int32.toInt_inj.mp (hv2.trans hv1.symm)
  rw [ev2]
  refine lw_Vi (o := o) (c0 := 85) F hml hl.1 hA hP hD hO hN hS (As := [.int (xs v1.toNatClampNeg)]) (c_X12_end_85__2 l dC dI ad cA nF u1 (xs v1.toNatClampNeg) hI.1 ) ⟨callB_of 1 F.2.2.1 (tb_good qz1437) rfl rfl rfl (F.2.2.1 _ qz17) (F.2.2.1 _ qz1434) (by decide +kernel) (by decide), F.2.2.1 _ qz1435, F.2.2.1 _ qz1436⟩ tc_85 rfl rfl rfl rfl (Nat.le_of_ble_eq_true rfl) dL_law_315 hf (fun r2 u2 H locs hw hP hD hO hS => ?_)
  have x2_1 : ((0 : Int) ≤ r2.toInt ∧ r2.toInt ≤ 1) := hw.2.2.1
  have x2_2 : ((0 ≤ (xs v1.toNatClampNeg).toInt ∧ (xs v1.toNatClampNeg).toInt ≤ (u1.1 85 2).toInt → (u2.1 85 2).toInt = (xs v1.toNatClampNeg).toInt ∧ r2.toInt = 1) ∧ ((xs v1.toNatClampNeg).toInt < 0 ∨ (u1.1 85 2).toInt < (xs v1.toNatClampNeg).toInt → (u2.1 85 2).toInt = (u1.1 85 2).toInt ∧ r2.toInt = 0)) := hw.2.2.2
  have k2_1_2 : (u2.1 1 2).toInt = (u1.1 1 2).toInt := congrArg Int32.toInt (hw.2.1 1 2 rfl)
  have k2_53_4 : (u2.1 53 4).toInt = (u1.1 53 4).toInt := congrArg Int32.toInt (hw.2.1 53 4 rfl)
  have k2_54_4 : (u2.1 54 4).toInt = (u1.1 54 4).toInt := congrArg Int32.toInt (hw.2.1 54 4 rfl)
  have k2_104_0 : (u2.1 104 0).toInt = (u1.1 104 0).toInt := congrArg Int32.toInt (hw.2.1 104 0 rfl)
  have k2_104_1 : (u2.1 104 1).toInt = (u1.1 104 1).toInt := congrArg Int32.toInt (hw.2.1 104 1 rfl)
  have hH : hxI u2 := sp_fr sp_HX hw.2.1 (by decide) hH
  have hT : byI u2 := by_fr hw.2.1 rfl rfl hT
  have hM : imI u2 := sp_fr sp_IM hw.2.1 (by decide) hM
  have hI : inv0 u2 := ⟨hw.1, sp_fr (sp_nm 11 12) (hw.2.1) (by decide) (hI.2.1), sp_fr (sp_nm 20 21) (hw.2.1) (by decide) (hI.2.2.1), sp_fr (sp_nm 62 63) (hw.2.1) (by decide) (hI.2.2.2.1), sp_fr (sp_nm 71 72) (hw.2.1) (by decide) (hI.2.2.2.2.1), sp_fr (sp_MS) (hw.2.1) (by decide) (hI.2.2.2.2.2.1), sp_fr (sp_UI) (hw.2.1) (by decide) (hI.2.2.2.2.2.2.1), sp_fr (sp_CW) (hw.2.1) (by decide) (hI.2.2.2.2.2.2.2.1), sp_fr (sp_KI) (hw.2.1) (by decide) (hI.2.2.2.2.2.2.2.2.1), sp_fr (sp_AP) (hw.2.1) (by decide) (hI.2.2.2.2.2.2.2.2.2.1), sp_fr (sp_AU) (hw.2.1) (by decide) (hI.2.2.2.2.2.2.2.2.2.2.1), sp_fr (sp_AK) (hw.2.1) (by decide) (hI.2.2.2.2.2.2.2.2.2.2.2)⟩
  clear hw
  obtain ⟨hE1, hE2, hE3⟩ := hE
  have hE : eqv u2 := ⟨by omega, by omega, by omega⟩
  refine lv_pop F.1 F.2.1 dL_law_318 rfl ?_
  refine lv_goto (tgt := 1481) F.1 F.2.1 dL_law_319 (by decide) ?_
  exact W.widen cN_up.1 cN_up.2 (KK nF ad _ H locs ls ⟨hn, rfl, rfl, hN, ⟨hI, hE, hH, hT, hM⟩, hP, hD, fo, hO⟩ hS hl)
set_option maxHeartbeats 1000000 in
theorem law_c2 {p : Program} {l : Launch} {e : Env} {s : State} {m : MethodId} {below : List Frame} {meth : Method} {c : Code} {dC : Nat → ClassId} {dI : Nat → Nat → Nat} {cA : Nat → ClassId} {b L ax bm o j nF : Nat} {xs : Nat → Int32} {i : Int32} {ad : Nat → Nat} {u : ac_U} {H : Heap} {locs : List Loc} {ls : Array Slot} {Q : State → Prop} (F : ac_X p s m #[.ref b] c cL_law RL TB (dC, dI) vwCl (ac_ty cA)) (hml : c.maxLocals = 7) (hX : va_X b L xs s s.heap) (hbl : b < s.heap.size) (hL : L ≤ 3072) (hi : i.toInt = 6 * (j : Int)) (hj : 6 * j + 6 ≤ L) (hG : lw_I (dC, dI) cA ax bm o (fun q => s.heap.size ≤ q) nF ad u H) (hS : va_S (fun q => s.heap.size ≤ q) s.heap H locs) (hl : lv_has ls 7 [(4, .int i), (3, .ref o), (2, .ref bm), (1, .ref ax), (0, .ref b)])
    (KK : ∀ (nF : Nat) (ad : Nat → Nat) (u : ac_U) (H : Heap) (locs : List Loc) (ls : Array Slot), lw_I (dC, dI) cA ax bm o (fun q => s.heap.size ≤ q) nF ad u H → va_S (fun q => s.heap.size ≤ q) s.heap H locs → lv_has ls 7 [(4, .int i), (3, .ref o), (2, .ref bm), (1, .ref ax), (0, .ref b)] → W p l e room_1 s m #[.ref b] below meth c H locs (cN nF (j + 1)) (sN nF (j + 1)) Q (F0 m 1481 ls [])) : W p l e room_1 s m #[.ref b] below meth c H locs (cN nF j) (sN nF j) Q (F0 m 322 ls []) := by
  obtain ⟨hn, rfl, rfl, hN, ⟨hI, hE, hH, hT, hM⟩, hP, hD, fo, hO⟩ := hG
  have hA : ∀ q : Nat, s.heap.size ≤ q → (fun q : Nat => s.heap.size ≤ q) q := fun _ h => h
  have hbA : ¬ (fun q : Nat => s.heap.size ≤ q) b := Nat.not_le.mpr hbl
  have hf : cN nF j ≤ room_1.cells ∧ sN nF j ≤ room_1.slots := by
    have := cN_le (nF := nF) (j := j) hn (by omega)
    omega
  have hI0 := hI
  have hE0 := hE
  have hH0 := hH
  have hT0 := hT
  have hM0 := hM
  refine lv_aload_n F.1 F.2.1 dL_law_322 rfl (lv_at hl 3 rfl) ?_
  refine lw_Vi (o := o) (c0 := 0) F hml hl.1 hA hP hD hO hN hS (As := []) (x_X11_house_0 l dC dI ad cA nF u  hI.1 hI.2.2.1 hI.2.1) ⟨callB_of 0 F.2.2.1 (tb_good qz564) rfl rfl rfl (F.2.2.1 _ qz1) (F.2.2.1 _ qz561) (by decide +kernel) (by decide), F.2.2.1 _ qz562, F.2.2.1 _ qz563⟩ tc_0 rfl rfl rfl rfl (Nat.le_of_ble_eq_true rfl) dL_law_323 hf (fun r1 u1 H locs hw hP hD hO hS => ?_)
  have x1_1 : ((-941 : Int) ≤ r1.toInt ∧ r1.toInt ≤ 940) := hw.2.2.1
  have x1_2 : (u1.1 1 2).toInt = 0 := hw.2.2.2.2.2.1
  have k1_85_2 : (u1.1 85 2).toInt = (u.1 85 2).toInt := congrArg Int32.toInt (hw.2.1 85 2 rfl)
  have k1_53_4 : (u1.1 53 4).toInt = (u.1 53 4).toInt := congrArg Int32.toInt (hw.2.1 53 4 rfl)
  have k1_54_4 : (u1.1 54 4).toInt = (u.1 54 4).toInt := congrArg Int32.toInt (hw.2.1 54 4 rfl)
  have k1_104_0 : (u1.1 104 0).toInt = (u.1 104 0).toInt := congrArg Int32.toInt (hw.2.1 104 0 rfl)
  have k1_104_1 : (u1.1 104 1).toInt = (u.1 104 1).toInt := congrArg Int32.toInt (hw.2.1 104 1 rfl)
  have hF1 := hw.2.1
  have hx1 : f_X11_house_0 u = (u1, r1) := hw.2.2.2.2.2.2
  have hT : byI u1 := by_fr hw.2.1 rfl rfl hT
  have hM : imI u1 := sp_fr sp_IM hw.2.1 (by decide) hM
  have hI : inv0 u1 := ⟨hw.1, hw.2.2.2.2.1, hw.2.2.2.1, sp_fr (sp_nm 62 63) (hw.2.1) (by decide) (hI.2.2.2.1), sp_fr (sp_nm 71 72) (hw.2.1) (by decide) (hI.2.2.2.2.1), sp_fr (sp_MS) (hw.2.1) (by decide) (hI.2.2.2.2.2.1), sp_fr (sp_UI) (hw.2.1) (by decide) (hI.2.2.2.2.2.2.1), sp_fr (sp_CW) (hw.2.1) (by decide) (hI.2.2.2.2.2.2.2.1), sp_fr (sp_KI) (hw.2.1) (by decide) (hI.2.2.2.2.2.2.2.2.1), sp_fr (sp_AP) (hw.2.1) (by decide) (hI.2.2.2.2.2.2.2.2.2.1), sp_fr (sp_AU) (hw.2.1) (by decide) (hI.2.2.2.2.2.2.2.2.2.2.1), sp_fr (sp_AK) (hw.2.1) (by decide) (hI.2.2.2.2.2.2.2.2.2.2.2)⟩
  clear hw
  refine lv_pop F.1 F.2.1 dL_law_326 rfl ?_
  refine lv_aload_n F.1 F.2.1 dL_law_327 rfl (lv_at hl 2 rfl) ?_
  refine lw_Vi (o := o) (c0 := 85) F hml hl.1 hA hP hD hO hN hS (As := []) (x_X12_house_85 l dC dI ad cA nF u1  hI.1 hI.2.2.2.2.2.1 hI.2.2.2.2.2.2.1 hI.2.2.2.2.2.2.2.1 hI.2.2.2.2.2.2.2.2.2.1 hI.2.2.2.2.2.2.2.2.2.2.1) ⟨callB_of 0 F.2.2.1 (tb_good qz1620) rfl rfl rfl (F.2.2.1 _ qz17) (F.2.2.1 _ qz1617) (by decide +kernel) (by decide), F.2.2.1 _ qz1618, F.2.2.1 _ qz1619⟩ tc_85 rfl rfl rfl rfl (Nat.le_of_ble_eq_true rfl) dL_law_328 hf (fun r2 u2 H locs hw hP hD hO hS => ?_)
  have x2_1 : (u2.1 85 2).toInt = 0 := hw.2.2.2.2.2.2.2.1
  have k2_1_2 : (u2.1 1 2).toInt = (u1.1 1 2).toInt := congrArg Int32.toInt (hw.2.1 1 2 rfl)
  have k2_53_4 : (u2.1 53 4).toInt = (u1.1 53 4).toInt := congrArg Int32.toInt (hw.2.1 53 4 rfl)
  have k2_54_4 : (u2.1 54 4).toInt = (u1.1 54 4).toInt := congrArg Int32.toInt (hw.2.1 54 4 rfl)
  have k2_104_0 : (u2.1 104 0).toInt = (u1.1 104 0).toInt := congrArg Int32.toInt (hw.2.1 104 0 rfl)
  have k2_104_1 : (u2.1 104 1).toInt = (u1.1 104 1).toInt := congrArg Int32.toInt (hw.2.1 104 1 rfl)
  have hF2 := hw.2.1
  have hx2 : f_X12_house_85 u1 = (u2, r2) := hw.2.2.2.2.2.2.2.2
  have hT : byI u2 := by_fr hw.2.1 rfl rfl hT
  have hM : imI u2 := sp_fr sp_IM hw.2.1 (by decide) hM
  have hI : inv0 u2 := ⟨hw.1, sp_fr (sp_nm 11 12) (hw.2.1) (by decide) (hI.2.1), sp_fr (sp_nm 20 21) (hw.2.1) (by decide) (hI.2.2.1), sp_fr (sp_nm 62 63) (hw.2.1) (by decide) (hI.2.2.2.1), sp_fr (sp_nm 71 72) (hw.2.1) (by decide) (hI.2.2.2.2.1), hw.2.2.1, hw.2.2.2.1, hw.2.2.2.2.1, sp_fr (sp_KI) (hw.2.1) (by decide) (hI.2.2.2.2.2.2.2.2.1), hw.2.2.2.2.2.1, hw.2.2.2.2.2.2.1, sp_fr (sp_AK) (hw.2.1) (by decide) (hI.2.2.2.2.2.2.2.2.2.2.2)⟩
  clear hw
  obtain ⟨hE1, hE2, hE3⟩ := hE
  have hE : eqv u2 := ⟨by omega, by omega, by omega⟩
  have hq := tw_house hF1 hF2 (by decide) (by decide) hx1 hx2 hI0.1 hI.1 hE0.1 hT0 hH
  have hH : hxI u2 := hq.2
  refine lv_pop F.1 F.2.1 dL_law_331 rfl ?_
  refine lv_goto (tgt := 1481) F.1 F.2.1 dL_law_332 (by decide) ?_
  exact W.widen cN_up.1 cN_up.2 (KK nF ad _ H locs ls ⟨hn, rfl, rfl, hN, ⟨hI, hE, hH, hT, hM⟩, hP, hD, fo, hO⟩ hS hl)
set_option maxHeartbeats 1000000 in
theorem law_c3 {p : Program} {l : Launch} {e : Env} {s : State} {m : MethodId} {below : List Frame} {meth : Method} {c : Code} {dC : Nat → ClassId} {dI : Nat → Nat → Nat} {cA : Nat → ClassId} {b L ax bm o j nF : Nat} {xs : Nat → Int32} {i : Int32} {ad : Nat → Nat} {u : ac_U} {H : Heap} {locs : List Loc} {ls : Array Slot} {Q : State → Prop} (F : ac_X p s m #[.ref b] c cL_law RL TB (dC, dI) vwCl (ac_ty cA)) (hml : c.maxLocals = 7) (hX : va_X b L xs s s.heap) (hbl : b < s.heap.size) (hL : L ≤ 3072) (hi : i.toInt = 6 * (j : Int)) (hj : 6 * j + 6 ≤ L) (hG : lw_I (dC, dI) cA ax bm o (fun q => s.heap.size ≤ q) nF ad u H) (hS : va_S (fun q => s.heap.size ≤ q) s.heap H locs) (hl : lv_has ls 7 [(4, .int i), (3, .ref o), (2, .ref bm), (1, .ref ax), (0, .ref b)])
    (KK : ∀ (nF : Nat) (ad : Nat → Nat) (u : ac_U) (H : Heap) (locs : List Loc) (ls : Array Slot), lw_I (dC, dI) cA ax bm o (fun q => s.heap.size ≤ q) nF ad u H → va_S (fun q => s.heap.size ≤ q) s.heap H locs → lv_has ls 7 [(4, .int i), (3, .ref o), (2, .ref bm), (1, .ref ax), (0, .ref b)] → W p l e room_1 s m #[.ref b] below meth c H locs (cN nF (j + 1)) (sN nF (j + 1)) Q (F0 m 1481 ls [])) : W p l e room_1 s m #[.ref b] below meth c H locs (cN nF j) (sN nF j) Q (F0 m 335 ls []) := by
  obtain ⟨hn, rfl, rfl, hN, ⟨hI, hE, hH, hT, hM⟩, hP, hD, fo, hO⟩ := hG
  have hA : ∀ q : Nat, s.heap.size ≤ q → (fun q : Nat => s.heap.size ≤ q) q := fun _ h => h
  have hbA : ¬ (fun q : Nat => s.heap.size ≤ q) b := Nat.not_le.mpr hbl
  have hf : cN nF j ≤ room_1.cells ∧ sN nF j ≤ room_1.slots := by
    have := cN_le (nF := nF) (j := j) hn (by omega)
    omega
  have hI0 := hI
  have hE0 := hE
  have hH0 := hH
  have hT0 := hT
  have hM0 := hM
  refine lv_aload_n F.1 F.2.1 dL_law_335 rfl (lv_at hl 3 rfl) ?_
  refine lw_Vi (o := o) (c0 := 0) F hml hl.1 hA hP hD hO hN hS (As := []) (c_X11_fault_0 l dC dI ad cA nF u  hI.1 ) ⟨callB_of 0 F.2.2.1 (tb_good qz738) rfl rfl rfl (F.2.2.1 _ qz1) (F.2.2.1 _ qz735) (by decide +kernel) (by decide), F.2.2.1 _ qz736, F.2.2.1 _ qz737⟩ tc_0 rfl rfl rfl rfl (Nat.le_of_ble_eq_true rfl) dL_law_336 hf (fun r1 u1 H locs hw hP hD hO hS => ?_)
  have hH : hxI u1 := by rw [hw.1]; exact hH
  have hT : byI u1 := by rw [hw.1]; exact hT
  have hM : imI u1 := by rw [hw.1]; exact hM
  have hE : eqv u1 := by rw [hw.1]; exact hE
  have hI : inv0 u1 := by rw [hw.1]; exact hI
  clear hw
  refine lv_pop F.1 F.2.1 dL_law_339 rfl ?_
  refine lv_aload_n F.1 F.2.1 dL_law_340 rfl (lv_at hl 2 rfl) ?_
  refine lw_Vi (o := o) (c0 := 85) F hml hl.1 hA hP hD hO hN hS (As := []) (c_X12_fault_85 l dC dI ad cA nF u1  hI.1 ) ⟨callB_of 0 F.2.2.1 (tb_good qz1696) rfl rfl rfl (F.2.2.1 _ qz17) (F.2.2.1 _ qz1693) (by decide +kernel) (by decide), F.2.2.1 _ qz1694, F.2.2.1 _ qz1695⟩ tc_85 rfl rfl rfl rfl (Nat.le_of_ble_eq_true rfl) dL_law_341 hf (fun r2 u2 H locs hw hP hD hO hS => ?_)
  have hH : hxI u2 := sp_fr sp_HX hw.2 (by decide) hH
  have hT : byI u2 := by_fr hw.2 rfl rfl hT
  have hM : imI u2 := sp_fr sp_IM hw.2 (by decide) hM
  have hE : eqv u2 := sp_fr sp_eqv hw.2 (by decide) hE
  have hI : inv0 u2 := ⟨hw.1, sp_fr (sp_nm 11 12) (hw.2) (by decide) (hI.2.1), sp_fr (sp_nm 20 21) (hw.2) (by decide) (hI.2.2.1), sp_fr (sp_nm 62 63) (hw.2) (by decide) (hI.2.2.2.1), sp_fr (sp_nm 71 72) (hw.2) (by decide) (hI.2.2.2.2.1), sp_fr (sp_MS) (hw.2) (by decide) (hI.2.2.2.2.2.1), sp_fr (sp_UI) (hw.2) (by decide) (hI.2.2.2.2.2.2.1), sp_fr (sp_CW) (hw.2) (by decide) (hI.2.2.2.2.2.2.2.1), sp_fr (sp_KI) (hw.2) (by decide) (hI.2.2.2.2.2.2.2.2.1), sp_fr (sp_AP) (hw.2) (by decide) (hI.2.2.2.2.2.2.2.2.2.1), sp_fr (sp_AU) (hw.2) (by decide) (hI.2.2.2.2.2.2.2.2.2.2.1), sp_fr (sp_AK) (hw.2) (by decide) (hI.2.2.2.2.2.2.2.2.2.2.2)⟩
  clear hw
  refine lv_pop F.1 F.2.1 dL_law_344 rfl ?_
  refine lv_goto (tgt := 1481) F.1 F.2.1 dL_law_345 (by decide) ?_
  exact W.widen cN_up.1 cN_up.2 (KK nF ad _ H locs ls ⟨hn, rfl, rfl, hN, ⟨hI, hE, hH, hT, hM⟩, hP, hD, fo, hO⟩ hS hl)
set_option maxHeartbeats 1000000 in
theorem law_c5 {p : Program} {l : Launch} {e : Env} {s : State} {m : MethodId} {below : List Frame} {meth : Method} {c : Code} {dC : Nat → ClassId} {dI : Nat → Nat → Nat} {cA : Nat → ClassId} {b L ax bm o j nF : Nat} {xs : Nat → Int32} {i : Int32} {ad : Nat → Nat} {u : ac_U} {H : Heap} {locs : List Loc} {ls : Array Slot} {Q : State → Prop} (F : ac_X p s m #[.ref b] c cL_law RL TB (dC, dI) vwCl (ac_ty cA)) (hml : c.maxLocals = 7) (hX : va_X b L xs s s.heap) (hbl : b < s.heap.size) (hL : L ≤ 3072) (hi : i.toInt = 6 * (j : Int)) (hj : 6 * j + 6 ≤ L) (hG : lw_I (dC, dI) cA ax bm o (fun q => s.heap.size ≤ q) nF ad u H) (hS : va_S (fun q => s.heap.size ≤ q) s.heap H locs) (hl : lv_has ls 7 [(4, .int i), (3, .ref o), (2, .ref bm), (1, .ref ax), (0, .ref b)])
    (KK : ∀ (nF : Nat) (ad : Nat → Nat) (u : ac_U) (H : Heap) (locs : List Loc) (ls : Array Slot), lw_I (dC, dI) cA ax bm o (fun q => s.heap.size ≤ q) nF ad u H → va_S (fun q => s.heap.size ≤ q) s.heap H locs → lv_has ls 7 [(4, .int i), (3, .ref o), (2, .ref bm), (1, .ref ax), (0, .ref b)] → W p l e room_1 s m #[.ref b] below meth c H locs (cN nF (j + 1)) (sN nF (j + 1)) Q (F0 m 1481 ls [])) : W p l e room_1 s m #[.ref b] below meth c H locs (cN nF j) (sN nF j) Q (F0 m 388 ls []) := by
  obtain ⟨hn, rfl, rfl, hN, ⟨hI, hE, hH, hT, hM⟩, hP, hD, fo, hO⟩ := hG
  have hA : ∀ q : Nat, s.heap.size ≤ q → (fun q : Nat => s.heap.size ≤ q) q := fun _ h => h
  have hbA : ¬ (fun q : Nat => s.heap.size ≤ q) b := Nat.not_le.mpr hbl
  have hf : cN nF j ≤ room_1.cells ∧ sN nF j ≤ room_1.slots := by
    have := cN_le (nF := nF) (j := j) hn (by omega)
    omega
  have hI0 := hI
  have hE0 := hE
  have hH0 := hH
  have hT0 := hT
  have hM0 := hM
  refine lv_aload_n F.1 F.2.1 dL_law_388 rfl (lv_at hl 3 rfl) ?_
  refine lv_aload_n F.1 F.2.1 dL_law_389 rfl (lv_at hl 4 rfl) ?_
  refine lv_iload F.1 F.2.1 dL_law_390 (lv_at hl 0 rfl) ?_
  refine a_ic F (1 : Int32) dL_law_392 (by decide) ?_
  refine a_iadd F dL_law_393 hi ic_1 (by omega) (fun v1 hv1 => ?_)
  refine va_sld F.1 F.2.1 hX hbl hbA hS (i_in hv1 (by omega)) dL_law_394 ?_
  refine lv_aload_n F.1 F.2.1 dL_law_395 rfl (lv_at hl 4 rfl) ?_
  refine lv_iload F.1 F.2.1 dL_law_396 (lv_at hl 0 rfl) ?_
  refine a_ic F (2 : Int32) dL_law_398 (by decide) ?_
  refine a_iadd F dL_law_399 hi ic_2 (by omega) (fun v2 hv2 => ?_)
  refine va_sld F.1 F.2.1 hX hbl hbA hS (i_in hv2 (by omega)) dL_law_400 ?_
  refine lw_Vi (o := o) (c0 := 0) F hml hl.1 hA hP hD hO hN hS (As := [.int (xs v1.toNatClampNeg), .int (xs v2.toNatClampNeg)]) (c_X11_person_0 l dC dI ad cA nF u (xs v1.toNatClampNeg) (xs v2.toNatClampNeg) hI.1 ) ⟨callB_of 2 F.2.2.1 (tb_good qz742) rfl rfl rfl (F.2.2.1 _ qz1) (F.2.2.1 _ qz739) (by decide +kernel) (by decide), F.2.2.1 _ qz740, F.2.2.1 _ qz741⟩ tc_0 rfl rfl rfl rfl (Nat.le_of_ble_eq_true rfl) dL_law_401 hf (fun r1 u1 H locs hw hP hD hO hS => ?_)
  have hH : hxI u1 := by rw [hw]; exact hH
  have hT : byI u1 := by rw [hw]; exact hT
  have hM : imI u1 := by rw [hw]; exact hM
  have hE : eqv u1 := by rw [hw]; exact hE
  have hI : inv0 u1 := by rw [hw]; exact hI
  clear hw
  refine lv_pop F.1 F.2.1 dL_law_404 rfl ?_
  refine lv_aload_n F.1 F.2.1 dL_law_405 rfl (lv_at hl 2 rfl) ?_
  refine lv_aload_n F.1 F.2.1 dL_law_406 rfl (lv_at hl 4 rfl) ?_
  refine lv_iload F.1 F.2.1 dL_law_407 (lv_at hl 0 rfl) ?_
  refine a_ic F (1 : Int32) dL_law_409 (by decide) ?_
  refine a_iadd F dL_law_410 hi ic_1 (by omega) (fun v3 hv3 => ?_)
  refine va_sld F.1 F.2.1 hX hbl hbA hS (i_in hv3 (by omega)) dL_law_411 ?_
  refine lv_aload_n F.1 F.2.1 dL_law_412 rfl (lv_at hl 4 rfl) ?_
  refine lv_iload F.1 F.2.1 dL_law_413 (lv_at hl 0 rfl) ?_
  refine a_ic F (2 : Int32) dL_law_415 (by decide) ?_
  refine a_iadd F dL_law_416 hi ic_2 (by omega) (fun v4 hv4 => ?_)
  refine va_sld F.1 F.2.1 hX hbl hbA hS (i_in hv4 (by omega)) dL_law_417 ?_
  have ev3 : v3 = v1 := Int32.toInt_inj.mp (hv3.trans hv1.symm)
  rw [ev3]
  have ev4 : v4 = v2 := Int32.toInt_inj.mp (hv4.trans hv2.symm)
  rw [ev4]
  refine lw_Vi (o := o) (c0 := 85) F hml hl.1 hA hP hD hO hN hS (As := [.int (xs v1.toNatClampNeg), .int (xs v2.toNatClampNeg)]) (c_X12_person_85 l dC dI ad cA nF u1 (xs v1.toNatClampNeg) (xs v2.toNatClampNeg) hI.1 ) ⟨callB_of 2 F.2.2.1 (tb_good qz1712) rfl rfl rfl (F.2.2.1 _ qz17) (F.2.2.1 _ qz1709) (by decide +kernel) (by decide), F.2.2.1 _ qz1710, F.2.2.1 _ qz1711⟩ tc_85 rfl rfl rfl rfl (Nat.le_of_ble_eq_true rfl) dL_law_418 hf (fun r2 u2 H locs hw hP hD hO hS => ?_)
  have hH : hxI u2 := sp_fr sp_HX hw.2 (by decide) hH
  have hT : byI u2 := by_fr hw.2 rfl rfl hT
  have hM : imI u2 := sp_fr sp_IM hw.2 (by decide) hM
  have hE : eqv u2 := sp_fr sp_eqv hw.2 (by decide) hE
  have hI : inv0 u2 := ⟨hw.1, sp_fr (sp_nm 11 12) (hw.2) (by decide) (hI.2.1), sp_fr (sp_nm 20 21) (hw.2) (by decide) (hI.2.2.1), sp_fr (sp_nm 62 63) (hw.2) (by decide) (hI.2.2.2.1), sp_fr (sp_nm 71 72) (hw.2) (by decide) (hI.2.2.2.2.1), sp_fr (sp_MS) (hw.2) (by decide) (hI.2.2.2.2.2.1), sp_fr (sp_UI) (hw.2) (by decide) (hI.2.2.2.2.2.2.1), sp_fr (sp_CW) (hw.2) (by decide) (hI.2.2.2.2.2.2.2.1), sp_fr (sp_KI) (hw.2) (by decide) (hI.2.2.2.2.2.2.2.2.1), sp_fr (sp_AP) (hw.2) (by decide) (hI.2.2.2.2.2.2.2.2.2.1), sp_fr (sp_AU) (hw.2) (by decide) (hI.2.2.2.2.2.2.2.2.2.2.1), sp_fr (sp_AK) (hw.2) (by decide) (hI.2.2.2.2.2.2.2.2.2.2.2)⟩
  clear hw
  refine lv_pop F.1 F.2.1 dL_law_421 rfl ?_
  refine lv_goto (tgt := 1481) F.1 F.2.1 dL_law_422 (by decide) ?_
  exact W.widen cN_up.1 cN_up.2 (KK nF ad _ H locs ls ⟨hn, rfl, rfl, hN, ⟨hI, hE, hH, hT, hM⟩, hP, hD, fo, hO⟩ hS hl)
set_option maxHeartbeats 1000000 in
theorem law_c6 {p : Program} {l : Launch} {e : Env} {s : State} {m : MethodId} {below : List Frame} {meth : Method} {c : Code} {dC : Nat → ClassId} {dI : Nat → Nat → Nat} {cA : Nat → ClassId} {b L ax bm o j nF : Nat} {xs : Nat → Int32} {i : Int32} {ad : Nat → Nat} {u : ac_U} {H : Heap} {locs : List Loc} {ls : Array Slot} {Q : State → Prop} (F : ac_X p s m #[.ref b] c cL_law RL TB (dC, dI) vwCl (ac_ty cA)) (hml : c.maxLocals = 7) (hX : va_X b L xs s s.heap) (hbl : b < s.heap.size) (hL : L ≤ 3072) (hi : i.toInt = 6 * (j : Int)) (hj : 6 * j + 6 ≤ L) (hG : lw_I (dC, dI) cA ax bm o (fun q => s.heap.size ≤ q) nF ad u H) (hS : va_S (fun q => s.heap.size ≤ q) s.heap H locs) (hl : lv_has ls 7 [(4, .int i), (3, .ref o), (2, .ref bm), (1, .ref ax), (0, .ref b)])
    (KK : ∀ (nF : Nat) (ad : Nat → Nat) (u : ac_U) (H : Heap) (locs : List Loc) (ls : Array Slot), lw_I (dC, dI) cA ax bm o (fun q => s.heap.size ≤ q) nF ad u H → va_S (fun q => s.heap.size ≤ q) s.heap H locs → lv_has ls 7 [(4, .int i), (3, .ref o), (2, .ref bm), (1, .ref ax), (0, .ref b)] → W p l e room_1 s m #[.ref b] below meth c H locs (cN nF (j + 1)) (sN nF (j + 1)) Q (F0 m 1481 ls [])) : W p l e room_1 s m #[.ref b] below meth c H locs (cN nF j) (sN nF j) Q (F0 m 425 ls []) := by
  obtain ⟨hn, rfl, rfl, hN, ⟨hI, hE, hH, hT, hM⟩, hP, hD, fo, hO⟩ := hG
  have hA : ∀ q : Nat, s.heap.size ≤ q → (fun q : Nat => s.heap.size ≤ q) q := fun _ h => h
  have hbA : ¬ (fun q : Nat => s.heap.size ≤ q) b := Nat.not_le.mpr hbl
  have hf : cN nF j ≤ room_1.cells ∧ sN nF j ≤ room_1.slots := by
    have := cN_le (nF := nF) (j := j) hn (by omega)
    omega
  have hI0 := hI
  have hE0 := hE
  have hH0 := hH
  have hT0 := hT
  have hM0 := hM
  refine lv_aload_n F.1 F.2.1 dL_law_425 rfl (lv_at hl 3 rfl) ?_
  refine lv_aload_n F.1 F.2.1 dL_law_426 rfl (lv_at hl 4 rfl) ?_
  refine lv_iload F.1 F.2.1 dL_law_427 (lv_at hl 0 rfl) ?_
  refine a_ic F (1 : Int32) dL_law_429 (by decide) ?_
  refine a_iadd F dL_law_430 hi ic_1 (by omega) (fun v1 hv1 => ?_)
  refine va_sld F.1 F.2.1 hX hbl hbA hS (i_in hv1 (by omega)) dL_law_431 ?_
  refine lv_aload_n F.1 F.2.1 dL_law_432 rfl (lv_at hl 4 rfl) ?_
  refine lv_iload F.1 F.2.1 dL_law_433 (lv_at hl 0 rfl) ?_
  refine a_ic F (2 : Int32) dL_law_435 (by decide) ?_
  refine a_iadd F dL_law_436 hi ic_2 (by omega) (fun v2 hv2 => ?_)
  refine va_sld F.1 F.2.1 hX hbl hbA hS (i_in hv2 (by omega)) dL_law_437 ?_
  refine lw_Vi (o := o) (c0 := 0) F hml hl.1 hA hP hD hO hN hS (As := [.int (xs v1.toNatClampNeg), .int (xs v2.toNatClampNeg)]) (c_X11_way_0 l dC dI ad cA nF u (xs v1.toNatClampNeg) (xs v2.toNatClampNeg) hI.1 ) ⟨callB_of 2 F.2.2.1 (tb_good qz754) rfl rfl rfl (F.2.2.1 _ qz1) (F.2.2.1 _ qz751) (by decide +kernel) (by decide), F.2.2.1 _ qz752, F.2.2.1 _ qz753⟩ tc_0 rfl rfl rfl rfl (Nat.le_of_ble_eq_true rfl) dL_law_438 hf (fun r1 u1 H locs hw hP hD hO hS => ?_)
  have hH : hxI u1 := by rw [hw.1]; exact hH
  have hT : byI u1 := by rw [hw.1]; exact hT
  have hM : imI u1 := by rw [hw.1]; exact hM
  have hE : eqv u1 := by rw [hw.1]; exact hE
  have hI : inv0 u1 := by rw [hw.1]; exact hI
  clear hw
  refine lv_pop F.1 F.2.1 dL_law_441 rfl ?_
  refine lv_aload_n F.1 F.2.1 dL_law_442 rfl (lv_at hl 2 rfl) ?_
  refine lv_aload_n F.1 F.2.1 dL_law_443 rfl (lv_at hl 4 rfl) ?_
  refine lv_iload F.1 F.2.1 dL_law_444 (lv_at hl 0 rfl) ?_
  refine a_ic F (1 : Int32) dL_law_446 (by decide) ?_
  refine a_iadd F dL_law_447 hi ic_1 (by omega) (fun v3 hv3 => ?_)
  refine va_sld F.1 F.2.1 hX hbl hbA hS (i_in hv3 (by omega)) dL_law_448 ?_
  refine lv_aload_n F.1 F.2.1 dL_law_449 rfl (lv_at hl 4 rfl) ?_
  refine lv_iload F.1 F.2.1 dL_law_450 (lv_at hl 0 rfl) ?_
  refine a_ic F (2 : Int32) dL_law_452 (by decide) ?_
  refine a_iadd F dL_law_453 hi ic_2 (by omega) (fun v4 hv4 => ?_)
  refine va_sld F.1 F.2.1 hX hbl hbA hS (i_in hv4 (by omega)) dL_law_454 ?_
  have ev3 : v3 = v1 := Int32.toInt_inj.mp (hv3.trans hv1.symm)
  rw [ev3]
  have ev4 : v4 = v2 := Int32.toInt_inj.mp (hv4.trans hv2.symm)
  rw [ev4]
  refine lw_Vi (o := o) (c0 := 85) F hml hl.1 hA hP hD hO hN hS (As := [.int (xs v1.toNatClampNeg), .int (xs v2.toNatClampNeg)]) (c_X12_way_85 l dC dI ad cA nF u1 (xs v1.toNatClampNeg) (xs v2.toNatClampNeg) hI.1 ) ⟨callB_of 2 F.2.2.1 (tb_good qz1720) rfl rfl rfl (F.2.2.1 _ qz17) (F.2.2.1 _ qz1717) (by decide +kernel) (by decide), F.2.2.1 _ qz1718, F.2.2.1 _ qz1719⟩ tc_85 rfl rfl rfl rfl (Nat.le_of_ble_eq_true rfl) dL_law_455 hf (fun r2 u2 H locs hw hP hD hO hS => ?_)
  have hH : hxI u2 := sp_fr sp_HX hw.2 (by decide) hH
  have hT : byI u2 := by_fr hw.2 rfl rfl hT
  have hM : imI u2 := sp_fr sp_IM hw.2 (by decide) hM
  have hE : eqv u2 := sp_fr sp_eqv hw.2 (by decide) hE
  have hI : inv0 u2 := ⟨hw.1, sp_fr (sp_nm 11 12) (hw.2) (by decide) (hI.2.1), sp_fr (sp_nm 20 21) (hw.2) (by decide) (hI.2.2.1), sp_fr (sp_nm 62 63) (hw.2) (by decide) (hI.2.2.2.1), sp_fr (sp_nm 71 72) (hw.2) (by decide) (hI.2.2.2.2.1), sp_fr (sp_MS) (hw.2) (by decide) (hI.2.2.2.2.2.1), sp_fr (sp_UI) (hw.2) (by decide) (hI.2.2.2.2.2.2.1), sp_fr (sp_CW) (hw.2) (by decide) (hI.2.2.2.2.2.2.2.1), sp_fr (sp_KI) (hw.2) (by decide) (hI.2.2.2.2.2.2.2.2.1), sp_fr (sp_AP) (hw.2) (by decide) (hI.2.2.2.2.2.2.2.2.2.1), sp_fr (sp_AU) (hw.2) (by decide) (hI.2.2.2.2.2.2.2.2.2.2.1), sp_fr (sp_AK) (hw.2) (by decide) (hI.2.2.2.2.2.2.2.2.2.2.2)⟩
  clear hw
  refine lv_pop F.1 F.2.1 dL_law_458 rfl ?_
  refine lv_goto (tgt := 1481) F.1 F.2.1 dL_law_459 (by decide) ?_
  exact W.widen cN_up.1 cN_up.2 (KK nF ad _ H locs ls ⟨hn, rfl, rfl, hN, ⟨hI, hE, hH, hT, hM⟩, hP, hD, fo, hO⟩ hS hl)
set_option maxHeartbeats 1000000 in
theorem law_c7 {p : Program} {l : Launch} {e : Env} {s : State} {m : MethodId} {below : List Frame} {meth : Method} {c : Code} {dC : Nat → ClassId} {dI : Nat → Nat → Nat} {cA : Nat → ClassId} {b L ax bm o j nF : Nat} {xs : Nat → Int32} {i : Int32} {ad : Nat → Nat} {u : ac_U} {H : Heap} {locs : List Loc} {ls : Array Slot} {Q : State → Prop} (F : ac_X p s m #[.ref b] c cL_law RL TB (dC, dI) vwCl (ac_ty cA)) (hml : c.maxLocals = 7) (hX : va_X b L xs s s.heap) (hbl : b < s.heap.size) (hL : L ≤ 3072) (hi : i.toInt = 6 * (j : Int)) (hj : 6 * j + 6 ≤ L) (hG : lw_I (dC, dI) cA ax bm o (fun q => s.heap.size ≤ q) nF ad u H) (hS : va_S (fun q => s.heap.size ≤ q) s.heap H locs) (hl : lv_has ls 7 [(4, .int i), (3, .ref o), (2, .ref bm), (1, .ref ax), (0, .ref b)])
    (KK : ∀ (nF : Nat) (ad : Nat → Nat) (u : ac_U) (H : Heap) (locs : List Loc) (ls : Array Slot), lw_I (dC, dI) cA ax bm o (fun q => s.heap.size ≤ q) nF ad u H → va_S (fun q => s.heap.size ≤ q) s.heap H locs → lv_has ls 7 [(4, .int i), (3, .ref o), (2, .ref bm), (1, .ref ax), (0, .ref b)] → W p l e room_1 s m #[.ref b] below meth c H locs (cN nF (j + 1)) (sN nF (j + 1)) Q (F0 m 1481 ls [])) : W p l e room_1 s m #[.ref b] below meth c H locs (cN nF j) (sN nF j) Q (F0 m 462 ls []) := by
  obtain ⟨hn, rfl, rfl, hN, ⟨hI, hE, hH, hT, hM⟩, hP, hD, fo, hO⟩ := hG
  have hA : ∀ q : Nat, s.heap.size ≤ q → (fun q : Nat => s.heap.size ≤ q) q := fun _ h => h
  have hbA : ¬ (fun q : Nat => s.heap.size ≤ q) b := Nat.not_le.mpr hbl
  have hf : cN nF j ≤ room_1.cells ∧ sN nF j ≤ room_1.slots := by
    have := cN_le (nF := nF) (j := j) hn (by omega)
    omega
  have hI0 := hI
  have hE0 := hE
  have hH0 := hH
  have hT0 := hT
  have hM0 := hM
  refine lv_aload_n F.1 F.2.1 dL_law_462 rfl (lv_at hl 3 rfl) ?_
  refine lv_aload_n F.1 F.2.1 dL_law_463 rfl (lv_at hl 4 rfl) ?_
  refine lv_iload F.1 F.2.1 dL_law_464 (lv_at hl 0 rfl) ?_
  refine a_ic F (1 : Int32) dL_law_466 (by decide) ?_
  refine a_iadd F dL_law_467 hi ic_1 (by omega) (fun v1 hv1 => ?_)
  refine va_sld F.1 F.2.1 hX hbl hbA hS (i_in hv1 (by omega)) dL_law_468 ?_
  refine lw_Vi (o := o) (c0 := 0) F hml hl.1 hA hP hD hO hN hS (As := [.int (xs v1.toNatClampNeg)]) (c_X11_frog_0 l dC dI ad cA nF u (xs v1.toNatClampNeg) hI.1 ) ⟨callB_of 1 F.2.2.1 (tb_good qz770) rfl rfl rfl (F.2.2.1 _ qz1) (F.2.2.1 _ qz767) (by decide +kernel) (by decide), F.2.2.1 _ qz768, F.2.2.1 _ qz769⟩ tc_0 rfl rfl rfl rfl (Nat.le_of_ble_eq_true rfl) dL_law_469 hf (fun r1 u1 H locs hw hP hD hO hS => ?_)
  have hH : hxI u1 := by rw [hw.1]; exact hH
  have hT : byI u1 := by rw [hw.1]; exact hT
  have hM : imI u1 := by rw [hw.1]; exact hM
  have hE : eqv u1 := by rw [hw.1]; exact hE
  have hI : inv0 u1 := by rw [hw.1]; exact hI
  clear hw
  refine lv_pop F.1 F.2.1 dL_law_472 rfl ?_
  refine lv_aload_n F.1 F.2.1 dL_law_473 rfl (lv_at hl 2 rfl) ?_
  refine lv_aload_n F.1 F.2.1 dL_law_474 rfl (lv_at hl 4 rfl) ?_
  refine lv_iload F.1 F.2.1 dL_law_475 (lv_at hl 0 rfl) ?_
  refine a_ic F (1 : Int32) dL_law_477 (by decide) ?_
  refine a_iadd F dL_law_478 hi ic_1 (by omega) (fun v2 hv2 => ?_)
  refine va_sld F.1 F.2.1 hX hbl hbA hS (i_in hv2 (by omega)) dL_law_479 ?_
  have ev2 : v2 = v1 := Int32.toInt_inj.mp (hv2.trans hv1.symm)
  rw [ev2]
  refine lw_Vi (o := o) (c0 := 85) F hml hl.1 hA hP hD hO hN hS (As := [.int (xs v1.toNatClampNeg)]) (c_X12_frog_85 l dC dI ad cA nF u1 (xs v1.toNatClampNeg) hI.1 ) ⟨callB_of 1 F.2.2.1 (tb_good qz1728) rfl rfl rfl (F.2.2.1 _ qz17) (F.2.2.1 _ qz1725) (by decide +kernel) (by decide), F.2.2.1 _ qz1726, F.2.2.1 _ qz1727⟩ tc_85 rfl rfl rfl rfl (Nat.le_of_ble_eq_true rfl) dL_law_480 hf (fun r2 u2 H locs hw hP hD hO hS => ?_)
  have hH : hxI u2 := sp_fr sp_HX hw.2.1 (by decide) hH
  have hT : byI u2 := by_fr hw.2.1 rfl rfl hT
  have hM : imI u2 := sp_fr sp_IM hw.2.1 (by decide) hM
  have hE : eqv u2 := sp_fr sp_eqv hw.2.1 (by decide) hE
  have hI : inv0 u2 := ⟨hw.1, sp_fr (sp_nm 11 12) (hw.2.1) (by decide) (hI.2.1), sp_fr (sp_nm 20 21) (hw.2.1) (by decide) (hI.2.2.1), sp_fr (sp_nm 62 63) (hw.2.1) (by decide) (hI.2.2.2.1), sp_fr (sp_nm 71 72) (hw.2.1) (by decide) (hI.2.2.2.2.1), sp_fr (sp_MS) (hw.2.1) (by decide) (hI.2.2.2.2.2.1), sp_fr (sp_UI) (hw.2.1) (by decide) (hI.2.2.2.2.2.2.1), sp_fr (sp_CW) (hw.2.1) (by decide) (hI.2.2.2.2.2.2.2.1), sp_fr (sp_KI) (hw.2.1) (by decide) (hI.2.2.2.2.2.2.2.2.1), sp_fr (sp_AP) (hw.2.1) (by decide) (hI.2.2.2.2.2.2.2.2.2.1), sp_fr (sp_AU) (hw.2.1) (by decide) (hI.2.2.2.2.2.2.2.2.2.2.1), sp_fr (sp_AK) (hw.2.1) (by decide) (hI.2.2.2.2.2.2.2.2.2.2.2)⟩
  clear hw
  refine lv_pop F.1 F.2.1 dL_law_483 rfl ?_
  refine lv_goto (tgt := 1481) F.1 F.2.1 dL_law_484 (by decide) ?_
  exact W.widen cN_up.1 cN_up.2 (KK nF ad _ H locs ls ⟨hn, rfl, rfl, hN, ⟨hI, hE, hH, hT, hM⟩, hP, hD, fo, hO⟩ hS hl)
set_option maxHeartbeats 1000000 in
theorem law_c8 {p : Program} {l : Launch} {e : Env} {s : State} {m : MethodId} {below : List Frame} {meth : Method} {c : Code} {dC : Nat → ClassId} {dI : Nat → Nat → Nat} {cA : Nat → ClassId} {b L ax bm o j nF : Nat} {xs : Nat → Int32} {i : Int32} {ad : Nat → Nat} {u : ac_U} {H : Heap} {locs : List Loc} {ls : Array Slot} {Q : State → Prop} (F : ac_X p s m #[.ref b] c cL_law RL TB (dC, dI) vwCl (ac_ty cA)) (hml : c.maxLocals = 7) (hX : va_X b L xs s s.heap) (hbl : b < s.heap.size) (hL : L ≤ 3072) (hi : i.toInt = 6 * (j : Int)) (hj : 6 * j + 6 ≤ L) (hG : lw_I (dC, dI) cA ax bm o (fun q => s.heap.size ≤ q) nF ad u H) (hS : va_S (fun q => s.heap.size ≤ q) s.heap H locs) (hl : lv_has ls 7 [(4, .int i), (3, .ref o), (2, .ref bm), (1, .ref ax), (0, .ref b)])
    (KK : ∀ (nF : Nat) (ad : Nat → Nat) (u : ac_U) (H : Heap) (locs : List Loc) (ls : Array Slot), lw_I (dC, dI) cA ax bm o (fun q => s.heap.size ≤ q) nF ad u H → va_S (fun q => s.heap.size ≤ q) s.heap H locs → lv_has ls 7 [(4, .int i), (3, .ref o), (2, .ref bm), (1, .ref ax), (0, .ref b)] → W p l e room_1 s m #[.ref b] below meth c H locs (cN nF (j + 1)) (sN nF (j + 1)) Q (F0 m 1481 ls [])) : W p l e room_1 s m #[.ref b] below meth c H locs (cN nF j) (sN nF j) Q (F0 m 487 ls []) := by
  obtain ⟨hn, rfl, rfl, hN, ⟨hI, hE, hH, hT, hM⟩, hP, hD, fo, hO⟩ := hG
  have hA : ∀ q : Nat, s.heap.size ≤ q → (fun q : Nat => s.heap.size ≤ q) q := fun _ h => h
  have hbA : ¬ (fun q : Nat => s.heap.size ≤ q) b := Nat.not_le.mpr hbl
  have hf : cN nF j ≤ room_1.cells ∧ sN nF j ≤ room_1.slots := by
    have := cN_le (nF := nF) (j := j) hn (by omega)
    omega
  have hI0 := hI
  have hE0 := hE
  have hH0 := hH
  have hT0 := hT
  have hM0 := hM
  refine lv_aload_n F.1 F.2.1 dL_law_487 rfl (lv_at hl 3 rfl) ?_
  refine lv_aload_n F.1 F.2.1 dL_law_488 rfl (lv_at hl 4 rfl) ?_
  refine lv_iload F.1 F.2.1 dL_law_489 (lv_at hl 0 rfl) ?_
  refine a_ic F (1 : Int32) dL_law_491 (by decide) ?_
  refine a_iadd F dL_law_492 hi ic_1 (by omega) (fun v1 hv1 => ?_)
  refine va_sld F.1 F.2.1 hX hbl hbA hS (i_in hv1 (by omega)) dL_law_493 ?_
  refine lw_Vi (o := o) (c0 := 0) F hml hl.1 hA hP hD hO hN hS (As := [.int (xs v1.toNatClampNeg)]) (c_X11_now_0 l dC dI ad cA nF u (xs v1.toNatClampNeg) hI.1 ) ⟨callB_of 1 F.2.2.1 (tb_good qz778) rfl rfl rfl (F.2.2.1 _ qz1) (F.2.2.1 _ qz775) (by decide +kernel) (by decide), F.2.2.1 _ qz776, F.2.2.1 _ qz777⟩ tc_0 rfl rfl rfl rfl (Nat.le_of_ble_eq_true rfl) dL_law_494 hf (fun r1 u1 H locs hw hP hD hO hS => ?_)
  have hH : hxI u1 := sp_fr sp_HX hw.2 (by decide) hH
  have hT : byI u1 := by_fr hw.2 rfl rfl hT
  have hM : imI u1 := sp_fr sp_IM hw.2 (by decide) hM
  have hE : eqv u1 := sp_fr sp_eqv hw.2 (by decide) hE
  have hI : inv0 u1 := ⟨hw.1, sp_fr (sp_nm 11 12) (hw.2) (by decide) (hI.2.1), sp_fr (sp_nm 20 21) (hw.2) (by decide) (hI.2.2.1), sp_fr (sp_nm 62 63) (hw.2) (by decide) (hI.2.2.2.1), sp_fr (sp_nm 71 72) (hw.2) (by decide) (hI.2.2.2.2.1), sp_fr (sp_MS) (hw.2) (by decide) (hI.2.2.2.2.2.1), sp_fr (sp_UI) (hw.2) (by decide) (hI.2.2.2.2.2.2.1), sp_fr (sp_CW) (hw.2) (by decide) (hI.2.2.2.2.2.2.2.1), sp_fr (sp_KI) (hw.2) (by decide) (hI.2.2.2.2.2.2.2.2.1), sp_fr (sp_AP) (hw.2) (by decide) (hI.2.2.2.2.2.2.2.2.2.1), sp_fr (sp_AU) (hw.2) (by decide) (hI.2.2.2.2.2.2.2.2.2.2.1), sp_fr (sp_AK) (hw.2) (by decide) (hI.2.2.2.2.2.2.2.2.2.2.2)⟩
  clear hw
  refine lv_pop F.1 F.2.1 dL_law_497 rfl ?_
  refine lv_aload_n F.1 F.2.1 dL_law_498 rfl (lv_at hl 2 rfl) ?_
  refine lv_aload_n F.1 F.2.1 dL_law_499 rfl (lv_at hl 4 rfl) ?_
  refine lv_iload F.1 F.2.1 dL_law_500 (lv_at hl 0 rfl) ?_
  refine a_ic F (1 : Int32) dL_law_502 (by decide) ?_
  refine a_iadd F dL_law_503 hi ic_1 (by omega) (fun v2 hv2 => ?_)
  refine va_sld F.1 F.2.1 hX hbl hbA hS (i_in hv2 (by omega)) dL_law_504 ?_
  have ev2 : v2 = v1 := Int32.toInt_inj.mp (hv2.trans hv1.symm)
  rw [ev2]
  refine lw_Vi (o := o) (c0 := 85) F hml hl.1 hA hP hD hO hN hS (As := [.int (xs v1.toNatClampNeg)]) (c_X12_now_85 l dC dI ad cA nF u1 (xs v1.toNatClampNeg) hI.1 ) ⟨callB_of 1 F.2.2.1 (tb_good qz1732) rfl rfl rfl (F.2.2.1 _ qz17) (F.2.2.1 _ qz1729) (by decide +kernel) (by decide), F.2.2.1 _ qz1730, F.2.2.1 _ qz1731⟩ tc_85 rfl rfl rfl rfl (Nat.le_of_ble_eq_true rfl) dL_law_505 hf (fun r2 u2 H locs hw hP hD hO hS => ?_)
  have hH : hxI u2 := sp_fr sp_HX hw.2 (by decide) hH
  have hT : byI u2 := by_fr hw.2 rfl rfl hT
  have hM : imI u2 := sp_fr sp_IM hw.2 (by decide) hM
  have hE : eqv u2 := sp_fr sp_eqv hw.2 (by decide) hE
  have hI : inv0 u2 := ⟨hw.1, sp_fr (sp_nm 11 12) (hw.2) (by decide) (hI.2.1), sp_fr (sp_nm 20 21) (hw.2) (by decide) (hI.2.2.1), sp_fr (sp_nm 62 63) (hw.2) (by decide) (hI.2.2.2.1), sp_fr (sp_nm 71 72) (hw.2) (by decide) (hI.2.2.2.2.1), sp_fr (sp_MS) (hw.2) (by decide) (hI.2.2.2.2.2.1), sp_fr (sp_UI) (hw.2) (by decide) (hI.2.2.2.2.2.2.1), sp_fr (sp_CW) (hw.2) (by decide) (hI.2.2.2.2.2.2.2.1), sp_fr (sp_KI) (hw.2) (by decide) (hI.2.2.2.2.2.2.2.2.1), sp_fr (sp_AP) (hw.2) (by decide) (hI.2.2.2.2.2.2.2.2.2.1), sp_fr (sp_AU) (hw.2) (by decide) (hI.2.2.2.2.2.2.2.2.2.2.1), sp_fr (sp_AK) (hw.2) (by decide) (hI.2.2.2.2.2.2.2.2.2.2.2)⟩
  clear hw
  refine lv_pop F.1 F.2.1 dL_law_508 rfl ?_
  refine lv_goto (tgt := 1481) F.1 F.2.1 dL_law_509 (by decide) ?_
  exact W.widen cN_up.1 cN_up.2 (KK nF ad _ H locs ls ⟨hn, rfl, rfl, hN, ⟨hI, hE, hH, hT, hM⟩, hP, hD, fo, hO⟩ hS hl)
set_option maxHeartbeats 1000000 in
theorem law_c9 {p : Program} {l : Launch} {e : Env} {s : State} {m : MethodId} {below : List Frame} {meth : Method} {c : Code} {dC : Nat → ClassId} {dI : Nat → Nat → Nat} {cA : Nat → ClassId} {b L ax bm o j nF : Nat} {xs : Nat → Int32} {i : Int32} {ad : Nat → Nat} {u : ac_U} {H : Heap} {locs : List Loc} {ls : Array Slot} {Q : State → Prop} (F : ac_X p s m #[.ref b] c cL_law RL TB (dC, dI) vwCl (ac_ty cA)) (hml : c.maxLocals = 7) (hX : va_X b L xs s s.heap) (hbl : b < s.heap.size) (hL : L ≤ 3072) (hi : i.toInt = 6 * (j : Int)) (hj : 6 * j + 6 ≤ L) (hG : lw_I (dC, dI) cA ax bm o (fun q => s.heap.size ≤ q) nF ad u H) (hS : va_S (fun q => s.heap.size ≤ q) s.heap H locs) (hl : lv_has ls 7 [(4, .int i), (3, .ref o), (2, .ref bm), (1, .ref ax), (0, .ref b)])
    (KK : ∀ (nF : Nat) (ad : Nat → Nat) (u : ac_U) (H : Heap) (locs : List Loc) (ls : Array Slot), lw_I (dC, dI) cA ax bm o (fun q => s.heap.size ≤ q) nF ad u H → va_S (fun q => s.heap.size ≤ q) s.heap H locs → lv_has ls 7 [(4, .int i), (3, .ref o), (2, .ref bm), (1, .ref ax), (0, .ref b)] → W p l e room_1 s m #[.ref b] below meth c H locs (cN nF (j + 1)) (sN nF (j + 1)) Q (F0 m 1481 ls [])) : W p l e room_1 s m #[.ref b] below meth c H locs (cN nF j) (sN nF j) Q (F0 m 512 ls []) := by
  obtain ⟨hn, rfl, rfl, hN, ⟨hI, hE, hH, hT, hM⟩, hP, hD, fo, hO⟩ := hG
  have hA : ∀ q : Nat, s.heap.size ≤ q → (fun q : Nat => s.heap.size ≤ q) q := fun _ h => h
  have hbA : ¬ (fun q : Nat => s.heap.size ≤ q) b := Nat.not_le.mpr hbl
  have hf : cN nF j ≤ room_1.cells ∧ sN nF j ≤ room_1.slots := by
    have := cN_le (nF := nF) (j := j) hn (by omega)
    omega
  have hI0 := hI
  have hE0 := hE
  have hH0 := hH
  have hT0 := hT
  have hM0 := hM
  refine lv_aload_n F.1 F.2.1 dL_law_512 rfl (lv_at hl 3 rfl) ?_
  refine lv_aload_n F.1 F.2.1 dL_law_513 rfl (lv_at hl 4 rfl) ?_
  refine lv_iload F.1 F.2.1 dL_law_514 (lv_at hl 0 rfl) ?_
  refine a_ic F (1 : Int32) dL_law_516 (by decide) ?_
  refine a_iadd F dL_law_517 hi ic_1 (by omega) (fun v1 hv1 => ?_)
  refine va_sld F.1 F.2.1 hX hbl hbA hS (i_in hv1 (by omega)) dL_law_518 ?_
  refine lv_aload_n F.1 F.2.1 dL_law_519 rfl (lv_at hl 4 rfl) ?_
  refine lv_iload F.1 F.2.1 dL_law_520 (lv_at hl 0 rfl) ?_
  refine a_ic F (2 : Int32) dL_law_522 (by decide) ?_
  refine a_iadd F dL_law_523 hi ic_2 (by omega) (fun v2 hv2 => ?_)
  refine va_sld F.1 F.2.1 hX hbl hbA hS (i_in hv2 (by omega)) dL_law_524 ?_
  refine lw_Vi (o := o) (c0 := 0) F hml hl.1 hA hP hD hO hN hS (As := [.int (xs v1.toNatClampNeg), .int (xs v2.toNatClampNeg)]) (c_X11_whyGo_0 l dC dI ad cA nF u (xs v1.toNatClampNeg) (xs v2.toNatClampNeg) hI.1 ) ⟨callB_of 2 F.2.2.1 (tb_good qz858) rfl rfl rfl (F.2.2.1 _ qz1) (F.2.2.1 _ qz855) (by decide +kernel) (by decide), F.2.2.1 _ qz856, F.2.2.1 _ qz857⟩ tc_0 rfl rfl rfl rfl (Nat.le_of_ble_eq_true rfl) dL_law_525 hf (fun r1 u1 H locs hw hP hD hO hS => ?_)
  have hH : hxI u1 := by rw [hw.1]; exact hH
  have hT : byI u1 := by rw [hw.1]; exact hT
  have hM : imI u1 := by rw [hw.1]; exact hM
  have hE : eqv u1 := by rw [hw.1]; exact hE
  have hI : inv0 u1 := by rw [hw.1]; exact hI
  clear hw
  refine lv_pop F.1 F.2.1 dL_law_528 rfl ?_
  refine lv_aload_n F.1 F.2.1 dL_law_529 rfl (lv_at hl 2 rfl) ?_
  refine lv_aload_n F.1 F.2.1 dL_law_530 rfl (lv_at hl 4 rfl) ?_
  refine lv_iload F.1 F.2.1 dL_law_531 (lv_at hl 0 rfl) ?_
  refine a_ic F (1 : Int32) dL_law_533 (by decide) ?_
  refine a_iadd F dL_law_534 hi ic_1 (by omega) (fun v3 hv3 => ?_)
  refine va_sld F.1 F.2.1 hX hbl hbA hS (i_in hv3 (by omega)) dL_law_535 ?_
  refine lv_aload_n F.1 F.2.1 dL_law_536 rfl (lv_at hl 4 rfl) ?_
  refine lv_iload F.1 F.2.1 dL_law_537 (lv_at hl 0 rfl) ?_
  refine a_ic F (2 : Int32) dL_law_539 (by decide) ?_
  refine a_iadd F dL_law_540 hi ic_2 (by omega) (fun v4 hv4 => ?_)
  refine va_sld F.1 F.2.1 hX hbl hbA hS (i_in hv4 (by omega)) dL_law_541 ?_
  have ev3 : v3 = v1 := Int32.toInt_inj.mp (hv3.trans hv1.symm)
  rw [ev3]
  have ev4 : v4 = v2 := Int32.toInt_inj.mp (hv4.trans hv2.symm)
  rw [ev4]
  refine lw_Vi (o := o) (c0 := 85) F hml hl.1 hA hP hD hO hN hS (As := [.int (xs v1.toNatClampNeg), .int (xs v2.toNatClampNeg)]) (c_X12_whyGo_85 l dC dI ad cA nF u1 (xs v1.toNatClampNeg) (xs v2.toNatClampNeg) hI.1 ) ⟨callB_of 2 F.2.2.1 (tb_good qz1771) rfl rfl rfl (F.2.2.1 _ qz17) (F.2.2.1 _ qz1768) (by decide +kernel) (by decide), F.2.2.1 _ qz1769, F.2.2.1 _ qz1770⟩ tc_85 rfl rfl rfl rfl (Nat.le_of_ble_eq_true rfl) dL_law_542 hf (fun r2 u2 H locs hw hP hD hO hS => ?_)
  have hH : hxI u2 := sp_fr sp_HX hw.2.1 (by decide) hH
  have hT : byI u2 := by_fr hw.2.1 rfl rfl hT
  have hM : imI u2 := sp_fr sp_IM hw.2.1 (by decide) hM
  have hE : eqv u2 := sp_fr sp_eqv hw.2.1 (by decide) hE
  have hI : inv0 u2 := ⟨hw.1, sp_fr (sp_nm 11 12) (hw.2.1) (by decide) (hI.2.1), sp_fr (sp_nm 20 21) (hw.2.1) (by decide) (hI.2.2.1), sp_fr (sp_nm 62 63) (hw.2.1) (by decide) (hI.2.2.2.1), sp_fr (sp_nm 71 72) (hw.2.1) (by decide) (hI.2.2.2.2.1), sp_fr (sp_MS) (hw.2.1) (by decide) (hI.2.2.2.2.2.1), sp_fr (sp_UI) (hw.2.1) (by decide) (hI.2.2.2.2.2.2.1), sp_fr (sp_CW) (hw.2.1) (by decide) (hI.2.2.2.2.2.2.2.1), sp_fr (sp_KI) (hw.2.1) (by decide) (hI.2.2.2.2.2.2.2.2.1), sp_fr (sp_AP) (hw.2.1) (by decide) (hI.2.2.2.2.2.2.2.2.2.1), sp_fr (sp_AU) (hw.2.1) (by decide) (hI.2.2.2.2.2.2.2.2.2.2.1), sp_fr (sp_AK) (hw.2.1) (by decide) (hI.2.2.2.2.2.2.2.2.2.2.2)⟩
  clear hw
  refine lv_pop F.1 F.2.1 dL_law_545 rfl ?_
  refine lv_goto (tgt := 1481) F.1 F.2.1 dL_law_546 (by decide) ?_
  exact W.widen cN_up.1 cN_up.2 (KK nF ad _ H locs ls ⟨hn, rfl, rfl, hN, ⟨hI, hE, hH, hT, hM⟩, hP, hD, fo, hO⟩ hS hl)
set_option maxHeartbeats 1000000 in
theorem law_c10 {p : Program} {l : Launch} {e : Env} {s : State} {m : MethodId} {below : List Frame} {meth : Method} {c : Code} {dC : Nat → ClassId} {dI : Nat → Nat → Nat} {cA : Nat → ClassId} {b L ax bm o j nF : Nat} {xs : Nat → Int32} {i : Int32} {ad : Nat → Nat} {u : ac_U} {H : Heap} {locs : List Loc} {ls : Array Slot} {Q : State → Prop} (F : ac_X p s m #[.ref b] c cL_law RL TB (dC, dI) vwCl (ac_ty cA)) (hml : c.maxLocals = 7) (hX : va_X b L xs s s.heap) (hbl : b < s.heap.size) (hL : L ≤ 3072) (hi : i.toInt = 6 * (j : Int)) (hj : 6 * j + 6 ≤ L) (hG : lw_I (dC, dI) cA ax bm o (fun q => s.heap.size ≤ q) nF ad u H) (hS : va_S (fun q => s.heap.size ≤ q) s.heap H locs) (hl : lv_has ls 7 [(4, .int i), (3, .ref o), (2, .ref bm), (1, .ref ax), (0, .ref b)])
    (KK : ∀ (nF : Nat) (ad : Nat → Nat) (u : ac_U) (H : Heap) (locs : List Loc) (ls : Array Slot), lw_I (dC, dI) cA ax bm o (fun q => s.heap.size ≤ q) nF ad u H → va_S (fun q => s.heap.size ≤ q) s.heap H locs → lv_has ls 7 [(4, .int i), (3, .ref o), (2, .ref bm), (1, .ref ax), (0, .ref b)] → W p l e room_1 s m #[.ref b] below meth c H locs (cN nF (j + 1)) (sN nF (j + 1)) Q (F0 m 1481 ls [])) : W p l e room_1 s m #[.ref b] below meth c H locs (cN nF j) (sN nF j) Q (F0 m 549 ls []) := by
  obtain ⟨hn, rfl, rfl, hN, ⟨hI, hE, hH, hT, hM⟩, hP, hD, fo, hO⟩ := hG
  have hA : ∀ q : Nat, s.heap.size ≤ q → (fun q : Nat => s.heap.size ≤ q) q := fun _ h => h
  have hbA : ¬ (fun q : Nat => s.heap.size ≤ q) b := Nat.not_le.mpr hbl
  have hf : cN nF j ≤ room_1.cells ∧ sN nF j ≤ room_1.slots := by
    have := cN_le (nF := nF) (j := j) hn (by omega)
    omega
  have hI0 := hI
  have hE0 := hE
  have hH0 := hH
  have hT0 := hT
  have hM0 := hM
  refine lv_aload_n F.1 F.2.1 dL_law_549 rfl (lv_at hl 3 rfl) ?_
  refine lv_aload_n F.1 F.2.1 dL_law_550 rfl (lv_at hl 4 rfl) ?_
  refine lv_iload F.1 F.2.1 dL_law_551 (lv_at hl 0 rfl) ?_
  refine a_ic F (1 : Int32) dL_law_553 (by decide) ?_
  refine a_iadd F dL_law_554 hi ic_1 (by omega) (fun v1 hv1 => ?_)
  refine va_sld F.1 F.2.1 hX hbl hbA hS (i_in hv1 (by omega)) dL_law_555 ?_
  refine lv_aload_n F.1 F.2.1 dL_law_556 rfl (lv_at hl 4 rfl) ?_
  refine lv_iload F.1 F.2.1 dL_law_557 (lv_at hl 0 rfl) ?_
  refine a_ic F (2 : Int32) dL_law_559 (by decide) ?_
  refine a_iadd F dL_law_560 hi ic_2 (by omega) (fun v2 hv2 => ?_)
  refine va_sld F.1 F.2.1 hX hbl hbA hS (i_in hv2 (by omega)) dL_law_561 ?_
  refine lw_Vi (o := o) (c0 := 0) F hml hl.1 hA hP hD hO hN hS (As := [.int (xs v1.toNatClampNeg), .int (xs v2.toNatClampNeg)]) (c_X11_go_0 l dC dI ad cA nF u (xs v1.toNatClampNeg) (xs v2.toNatClampNeg) hI.1 ) ⟨callB_of 2 F.2.2.1 (tb_good qz876) rfl rfl rfl (F.2.2.1 _ qz1) (F.2.2.1 _ qz873) (by decide +kernel) (by decide), F.2.2.1 _ qz874, F.2.2.1 _ qz875⟩ tc_0 rfl rfl rfl rfl (Nat.le_of_ble_eq_true rfl) dL_law_562 hf (fun r1 u1 H locs hw hP hD hO hS => ?_)
  have hH : hxI u1 := sp_fr sp_HX hw.2.1 (by decide) hH
  have hT : byI u1 := by_fr hw.2.1 rfl rfl hT
  have hM : imI u1 := sp_fr sp_IM hw.2.1 (by decide) hM
  have hE : eqv u1 := sp_fr sp_eqv hw.2.1 (by decide) hE
  have hI : inv0 u1 := ⟨hw.1, sp_fr (sp_nm 11 12) (hw.2.1) (by decide) (hI.2.1), sp_fr (sp_nm 20 21) (hw.2.1) (by decide) (hI.2.2.1), sp_fr (sp_nm 62 63) (hw.2.1) (by decide) (hI.2.2.2.1), sp_fr (sp_nm 71 72) (hw.2.1) (by decide) (hI.2.2.2.2.1), sp_fr (sp_MS) (hw.2.1) (by decide) (hI.2.2.2.2.2.1), sp_fr (sp_UI) (hw.2.1) (by decide) (hI.2.2.2.2.2.2.1), sp_fr (sp_CW) (hw.2.1) (by decide) (hI.2.2.2.2.2.2.2.1), sp_fr (sp_KI) (hw.2.1) (by decide) (hI.2.2.2.2.2.2.2.2.1), sp_fr (sp_AP) (hw.2.1) (by decide) (hI.2.2.2.2.2.2.2.2.2.1), sp_fr (sp_AU) (hw.2.1) (by decide) (hI.2.2.2.2.2.2.2.2.2.2.1), sp_fr (sp_AK) (hw.2.1) (by decide) (hI.2.2.2.2.2.2.2.2.2.2.2)⟩
  clear hw
  refine lv_pop F.1 F.2.1 dL_law_565 rfl ?_
  refine lv_aload_n F.1 F.2.1 dL_law_566 rfl (lv_at hl 2 rfl) ?_
  refine lv_aload_n F.1 F.2.1 dL_law_567 rfl (lv_at hl 4 rfl) ?_
  refine lv_iload F.1 F.2.1 dL_law_568 (lv_at hl 0 rfl) ?_
  refine a_ic F (1 : Int32) dL_law_570 (by decide) ?_
  refine a_iadd F dL_law_571 hi ic_1 (by omega) (fun v3 hv3 => ?_)
  refine va_sld F.1 F.2.1 hX hbl hbA hS (i_in hv3 (by omega)) dL_law_572 ?_
  refine lv_aload_n F.1 F.2.1 dL_law_573 rfl (lv_at hl 4 rfl) ?_
  refine lv_iload F.1 F.2.1 dL_law_574 (lv_at hl 0 rfl) ?_
  refine a_ic F (2 : Int32) dL_law_576 (by decide) ?_
  refine a_iadd F dL_law_577 hi ic_2 (by omega) (fun v4 hv4 => ?_)
  refine va_sld F.1 F.2.1 hX hbl hbA hS (i_in hv4 (by omega)) dL_law_578 ?_
  have ev3 : v3 = v1 := Int32.toInt_inj.mp (hv3.trans hv1.symm)
  rw [ev3]
  have ev4 : v4 = v2 := Int32.toInt_inj.mp (hv4.trans hv2.symm)
  rw [ev4]
  refine lw_Vi (o := o) (c0 := 85) F hml hl.1 hA hP hD hO hN hS (As := [.int (xs v1.toNatClampNeg), .int (xs v2.toNatClampNeg)]) (c_X12_go_85__4 l dC dI ad cA nF u1 (xs v1.toNatClampNeg) (xs v2.toNatClampNeg) hI.1 hI.2.2.2.2.2.1 hI.2.2.2.2.2.2.1 hI.2.2.2.2.2.2.2.1 hI.2.2.2.2.2.2.2.2.2.1 hI.2.2.2.2.2.2.2.2.2.2.1) ⟨callB_of 2 F.2.2.1 (tb_good qz1783) rfl rfl rfl (F.2.2.1 _ qz17) (F.2.2.1 _ qz1780) (by decide +kernel) (by decide), F.2.2.1 _ qz1781, F.2.2.1 _ qz1782⟩ tc_85 rfl rfl rfl rfl (Nat.le_of_ble_eq_true rfl) dL_law_579 hf (fun r2 u2 H locs hw hP hD hO hS => ?_)
  have hH : hxI u2 := hw.2.2.2.2.2.2.2.2 hH
  have hT : byI u2 := by_fr hw.2.1 rfl rfl hT
  have hM : imI u2 := sp_fr sp_IM hw.2.1 (by decide) hM
  have hE : eqv u2 := sp_fr sp_eqv hw.2.1 (by decide) hE
  have hI : inv0 u2 := ⟨hw.1, sp_fr (sp_nm 11 12) (hw.2.1) (by decide) (hI.2.1), sp_fr (sp_nm 20 21) (hw.2.1) (by decide) (hI.2.2.1), sp_fr (sp_nm 62 63) (hw.2.1) (by decide) (hI.2.2.2.1), sp_fr (sp_nm 71 72) (hw.2.1) (by decide) (hI.2.2.2.2.1), hw.2.2.2.1, hw.2.2.2.2.1, hw.2.2.2.2.2.1, sp_fr (sp_KI) (hw.2.1) (by decide) (hI.2.2.2.2.2.2.2.2.1), hw.2.2.2.2.2.2.1, hw.2.2.2.2.2.2.2.1, sp_fr (sp_AK) (hw.2.1) (by decide) (hI.2.2.2.2.2.2.2.2.2.2.2)⟩
  clear hw
  refine lv_pop F.1 F.2.1 dL_law_582 rfl ?_
  refine lv_goto (tgt := 1481) F.1 F.2.1 dL_law_583 (by decide) ?_
  exact W.widen cN_up.1 cN_up.2 (KK nF ad _ H locs ls ⟨hn, rfl, rfl, hN, ⟨hI, hE, hH, hT, hM⟩, hP, hD, fo, hO⟩ hS hl)
set_option maxHeartbeats 1000000 in
theorem law_c11 {p : Program} {l : Launch} {e : Env} {s : State} {m : MethodId} {below : List Frame} {meth : Method} {c : Code} {dC : Nat → ClassId} {dI : Nat → Nat → Nat} {cA : Nat → ClassId} {b L ax bm o j nF : Nat} {xs : Nat → Int32} {i : Int32} {ad : Nat → Nat} {u : ac_U} {H : Heap} {locs : List Loc} {ls : Array Slot} {Q : State → Prop} (F : ac_X p s m #[.ref b] c cL_law RL TB (dC, dI) vwCl (ac_ty cA)) (hml : c.maxLocals = 7) (hX : va_X b L xs s s.heap) (hbl : b < s.heap.size) (hL : L ≤ 3072) (hi : i.toInt = 6 * (j : Int)) (hj : 6 * j + 6 ≤ L) (hG : lw_I (dC, dI) cA ax bm o (fun q => s.heap.size ≤ q) nF ad u H) (hS : va_S (fun q => s.heap.size ≤ q) s.heap H locs) (hl : lv_has ls 7 [(4, .int i), (3, .ref o), (2, .ref bm), (1, .ref ax), (0, .ref b)])
    (KK : ∀ (nF : Nat) (ad : Nat → Nat) (u : ac_U) (H : Heap) (locs : List Loc) (ls : Array Slot), lw_I (dC, dI) cA ax bm o (fun q => s.heap.size ≤ q) nF ad u H → va_S (fun q => s.heap.size ≤ q) s.heap H locs → lv_has ls 7 [(4, .int i), (3, .ref o), (2, .ref bm), (1, .ref ax), (0, .ref b)] → W p l e room_1 s m #[.ref b] below meth c H locs (cN nF (j + 1)) (sN nF (j + 1)) Q (F0 m 1481 ls [])) : W p l e room_1 s m #[.ref b] below meth c H locs (cN nF j) (sN nF j) Q (F0 m 586 ls []) := by
  obtain ⟨hn, rfl, rfl, hN, ⟨hI, hE, hH, hT, hM⟩, hP, hD, fo, hO⟩ := hG
  have hA : ∀ q : Nat, s.heap.size ≤ q → (fun q : Nat => s.heap.size ≤ q) q := fun _ h => h
  have hbA : ¬ (fun q : Nat => s.heap.size ≤ q) b := Nat.not_le.mpr hbl
  have hf : cN nF j ≤ room_1.cells ∧ sN nF j ≤ room_1.slots := by
    have := cN_le (nF := nF) (j := j) hn (by omega)
    omega
  have hI0 := hI
  have hE0 := hE
  have hH0 := hH
  have hT0 := hT
  have hM0 := hM
  refine lv_aload_n F.1 F.2.1 dL_law_586 rfl (lv_at hl 3 rfl) ?_
  refine lv_aload_n F.1 F.2.1 dL_law_587 rfl (lv_at hl 4 rfl) ?_
  refine lv_iload F.1 F.2.1 dL_law_588 (lv_at hl 0 rfl) ?_
  refine a_ic F (1 : Int32) dL_law_590 (by decide) ?_
  refine a_iadd F dL_law_591 hi ic_1 (by omega) (fun v1 hv1 => ?_)
  refine va_sld F.1 F.2.1 hX hbl hbA hS (i_in hv1 (by omega)) dL_law_592 ?_
  refine lv_aload_n F.1 F.2.1 dL_law_593 rfl (lv_at hl 4 rfl) ?_
  refine lv_iload F.1 F.2.1 dL_law_594 (lv_at hl 0 rfl) ?_
  refine a_ic F (2 : Int32) dL_law_596 (by decide) ?_
  refine a_iadd F dL_law_597 hi ic_2 (by omega) (fun v2 hv2 => ?_)
  refine va_sld F.1 F.2.1 hX hbl hbA hS (i_in hv2 (by omega)) dL_law_598 ?_
  refine lw_Vi (o := o) (c0 := 0) F hml hl.1 hA hP hD hO hN hS (As := [.int (xs v1.toNatClampNeg), .int (xs v2.toNatClampNeg)]) (c_X11_act_0 l dC dI ad cA nF u (xs v1.toNatClampNeg) (xs v2.toNatClampNeg) hI.1 ) ⟨callB_of 2 F.2.2.1 (tb_good qz891) rfl rfl rfl (F.2.2.1 _ qz1) (F.2.2.1 _ qz888) (by decide +kernel) (by decide), F.2.2.1 _ qz889, F.2.2.1 _ qz890⟩ tc_0 rfl rfl rfl rfl (Nat.le_of_ble_eq_true rfl) dL_law_599 hf (fun r1 u1 H locs hw hP hD hO hS => ?_)
  have hH : hxI u1 := sp_fr sp_HX hw.2.1 (by decide) hH
  have hT : byI u1 := by_fr hw.2.1 rfl rfl hT
  have hM : imI u1 := sp_fr sp_IM hw.2.1 (by decide) hM
  have hE : eqv u1 := sp_fr sp_eqv hw.2.1 (by decide) hE
  have hI : inv0 u1 := ⟨hw.1, sp_fr (sp_nm 11 12) (hw.2.1) (by decide) (hI.2.1), sp_fr (sp_nm 20 21) (hw.2.1) (by decide) (hI.2.2.1), sp_fr (sp_nm 62 63) (hw.2.1) (by decide) (hI.2.2.2.1), sp_fr (sp_nm 71 72) (hw.2.1) (by decide) (hI.2.2.2.2.1), sp_fr (sp_MS) (hw.2.1) (by decide) (hI.2.2.2.2.2.1), sp_fr (sp_UI) (hw.2.1) (by decide) (hI.2.2.2.2.2.2.1), sp_fr (sp_CW) (hw.2.1) (by decide) (hI.2.2.2.2.2.2.2.1), sp_fr (sp_KI) (hw.2.1) (by decide) (hI.2.2.2.2.2.2.2.2.1), sp_fr (sp_AP) (hw.2.1) (by decide) (hI.2.2.2.2.2.2.2.2.2.1), sp_fr (sp_AU) (hw.2.1) (by decide) (hI.2.2.2.2.2.2.2.2.2.2.1), sp_fr (sp_AK) (hw.2.1) (by decide) (hI.2.2.2.2.2.2.2.2.2.2.2)⟩
  clear hw
  refine lv_pop F.1 F.2.1 dL_law_602 rfl ?_
  refine lv_aload_n F.1 F.2.1 dL_law_603 rfl (lv_at hl 2 rfl) ?_
  refine lv_aload_n F.1 F.2.1 dL_law_604 rfl (lv_at hl 4 rfl) ?_
  refine lv_iload F.1 F.2.1 dL_law_605 (lv_at hl 0 rfl) ?_
  refine a_ic F (1 : Int32) dL_law_607 (by decide) ?_
  refine a_iadd F dL_law_608 hi ic_1 (by omega) (fun v3 hv3 => ?_)
  refine va_sld F.1 F.2.1 hX hbl hbA hS (i_in hv3 (by omega)) dL_law_609 ?_
  refine lv_aload_n F.1 F.2.1 dL_law_610 rfl (lv_at hl 4 rfl) ?_
  refine lv_iload F.1 F.2.1 dL_law_611 (lv_at hl 0 rfl) ?_
  refine a_ic F (2 : Int32) dL_law_613 (by decide) ?_
  refine a_iadd F dL_law_614 hi ic_2 (by omega) (fun v4 hv4 => ?_)
  refine va_sld F.1 F.2.1 hX hbl hbA hS (i_in hv4 (by omega)) dL_law_615 ?_
  have ev3 : v3 = v1 := Int32.toInt_inj.mp (hv3.trans hv1.symm)
  rw [ev3]
  have ev4 : v4 = v2 := Int32.toInt_inj.mp (hv4.trans hv2.symm)
  rw [ev4]
  refine lw_Vi (o := o) (c0 := 85) F hml hl.1 hA hP hD hO hN hS (As := [.int (xs v1.toNatClampNeg), .int (xs v2.toNatClampNeg)]) (c_X12_act_85__4 l dC dI ad cA nF u1 (xs v1.toNatClampNeg) (xs v2.toNatClampNeg) hI.1 hI.2.2.2.2.2.1 hI.2.2.2.2.2.2.1 hI.2.2.2.2.2.2.2.1 hI.2.2.2.2.2.2.2.2.2.1 hI.2.2.2.2.2.2.2.2.2.2.1) ⟨callB_of 2 F.2.2.1 (tb_good qz1795) rfl rfl rfl (F.2.2.1 _ qz17) (F.2.2.1 _ qz1792) (by decide +kernel) (by decide), F.2.2.1 _ qz1793, F.2.2.1 _ qz1794⟩ tc_85 rfl rfl rfl rfl (Nat.le_of_ble_eq_true rfl) dL_law_616 hf (fun r2 u2 H locs hw hP hD hO hS => ?_)
  have hH : hxI u2 := hw.2.2.2.2.2.2.2.2 hH
  have hT : byI u2 := by_fr hw.2.1 rfl rfl hT
  have hM : imI u2 := sp_fr sp_IM hw.2.1 (by decide) hM
  have hE : eqv u2 := sp_fr sp_eqv hw.2.1 (by decide) hE
  have hI : inv0 u2 := ⟨hw.1, sp_fr (sp_nm 11 12) (hw.2.1) (by decide) (hI.2.1), sp_fr (sp_nm 20 21) (hw.2.1) (by decide) (hI.2.2.1), sp_fr (sp_nm 62 63) (hw.2.1) (by decide) (hI.2.2.2.1), sp_fr (sp_nm 71 72) (hw.2.1) (by decide) (hI.2.2.2.2.1), hw.2.2.2.1, hw.2.2.2.2.1, hw.2.2.2.2.2.1, sp_fr (sp_KI) (hw.2.1) (by decide) (hI.2.2.2.2.2.2.2.2.1), hw.2.2.2.2.2.2.1, hw.2.2.2.2.2.2.2.1, sp_fr (sp_AK) (hw.2.1) (by decide) (hI.2.2.2.2.2.2.2.2.2.2.2)⟩
  clear hw
  refine lv_pop F.1 F.2.1 dL_law_619 rfl ?_
  refine lv_goto (tgt := 1481) F.1 F.2.1 dL_law_620 (by decide) ?_
  exact W.widen cN_up.1 cN_up.2 (KK nF ad _ H locs ls ⟨hn, rfl, rfl, hN, ⟨hI, hE, hH, hT, hM⟩, hP, hD, fo, hO⟩ hS hl)
set_option maxHeartbeats 1000000 in
theorem law_c12 {p : Program} {l : Launch} {e : Env} {s : State} {m : MethodId} {below : List Frame} {meth : Method} {c : Code} {dC : Nat → ClassId} {dI : Nat → Nat → Nat} {cA : Nat → ClassId} {b L ax bm o j nF : Nat} {xs : Nat → Int32} {i : Int32} {ad : Nat → Nat} {u : ac_U} {H : Heap} {locs : List Loc} {ls : Array Slot} {Q : State → Prop} (F : ac_X p s m #[.ref b] c cL_law RL TB (dC, dI) vwCl (ac_ty cA)) (hml : c.maxLocals = 7) (hX : va_X b L xs s s.heap) (hbl : b < s.heap.size) (hL : L ≤ 3072) (hi : i.toInt = 6 * (j : Int)) (hj : 6 * j + 6 ≤ L) (hG : lw_I (dC, dI) cA ax bm o (fun q => s.heap.size ≤ q) nF ad u H) (hS : va_S (fun q => s.heap.size ≤ q) s.heap H locs) (hl : lv_has ls 7 [(4, .int i), (3, .ref o), (2, .ref bm), (1, .ref ax), (0, .ref b)])
    (KK : ∀ (nF : Nat) (ad : Nat → Nat) (u : ac_U) (H : Heap) (locs : List Loc) (ls : Array Slot), lw_I (dC, dI) cA ax bm o (fun q => s.heap.size ≤ q) nF ad u H → va_S (fun q => s.heap.size ≤ q) s.heap H locs → lv_has ls 7 [(4, .int i), (3, .ref o), (2, .ref bm), (1, .ref ax), (0, .ref b)] → W p l e room_1 s m #[.ref b] below meth c H locs (cN nF (j + 1)) (sN nF (j + 1)) Q (F0 m 1481 ls [])) : W p l e room_1 s m #[.ref b] below meth c H locs (cN nF j) (sN nF j) Q (F0 m 623 ls []) := by
  obtain ⟨hn, rfl, rfl, hN, ⟨hI, hE, hH, hT, hM⟩, hP, hD, fo, hO⟩ := hG
  have hA : ∀ q : Nat, s.heap.size ≤ q → (fun q : Nat => s.heap.size ≤ q) q := fun _ h => h
  have hbA : ¬ (fun q : Nat => s.heap.size ≤ q) b := Nat.not_le.mpr hbl
  have hf : cN nF j ≤ room_1.cells ∧ sN nF j ≤ room_1.slots := by
    have := cN_le (nF := nF) (j := j) hn (by omega)
    omega
  have hI0 := hI
  have hE0 := hE
  have hH0 := hH
  have hT0 := hT
  have hM0 := hM
  refine lv_aload_n F.1 F.2.1 dL_law_623 rfl (lv_at hl 3 rfl) ?_
  refine lv_aload_n F.1 F.2.1 dL_law_624 rfl (lv_at hl 4 rfl) ?_
  refine lv_iload F.1 F.2.1 dL_law_625 (lv_at hl 0 rfl) ?_
  refine a_ic F (1 : Int32) dL_law_627 (by decide) ?_
  refine a_iadd F dL_law_628 hi ic_1 (by omega) (fun v1 hv1 => ?_)
  refine va_sld F.1 F.2.1 hX hbl hbA hS (i_in hv1 (by omega)) dL_law_629 ?_
  refine lv_aload_n F.1 F.2.1 dL_law_630 rfl (lv_at hl 4 rfl) ?_
  refine lv_iload F.1 F.2.1 dL_law_631 (lv_at hl 0 rfl) ?_
  refine a_ic F (2 : Int32) dL_law_633 (by decide) ?_
  refine a_iadd F dL_law_634 hi ic_2 (by omega) (fun v2 hv2 => ?_)
  refine va_sld F.1 F.2.1 hX hbl hbA hS (i_in hv2 (by omega)) dL_law_635 ?_
  refine lw_Vi (o := o) (c0 := 0) F hml hl.1 hA hP hD hO hN hS (As := [.int (xs v1.toNatClampNeg), .int (xs v2.toNatClampNeg)]) (c_X11_say_0 l dC dI ad cA nF u (xs v1.toNatClampNeg) (xs v2.toNatClampNeg) hI.1 ) ⟨callB_of 2 F.2.2.1 (tb_good qz908) rfl rfl rfl (F.2.2.1 _ qz1) (F.2.2.1 _ qz905) (by decide +kernel) (by decide), F.2.2.1 _ qz906, F.2.2.1 _ qz907⟩ tc_0 rfl rfl rfl rfl (Nat.le_of_ble_eq_true rfl) dL_law_636 hf (fun r1 u1 H locs hw hP hD hO hS => ?_)
  have hH : hxI u1 := sp_fr sp_HX hw.2.1 (by decide) hH
  have hT : byI u1 := by_fr hw.2.1 rfl rfl hT
  have hM : imI u1 := sp_fr sp_IM hw.2.1 (by decide) hM
  have hE : eqv u1 := sp_fr sp_eqv hw.2.1 (by decide) hE
  have hI : inv0 u1 := ⟨hw.1, sp_fr (sp_nm 11 12) (hw.2.1) (by decide) (hI.2.1), sp_fr (sp_nm 20 21) (hw.2.1) (by decide) (hI.2.2.1), sp_fr (sp_nm 62 63) (hw.2.1) (by decide) (hI.2.2.2.1), sp_fr (sp_nm 71 72) (hw.2.1) (by decide) (hI.2.2.2.2.1), sp_fr (sp_MS) (hw.2.1) (by decide) (hI.2.2.2.2.2.1), sp_fr (sp_UI) (hw.2.1) (by decide) (hI.2.2.2.2.2.2.1), sp_fr (sp_CW) (hw.2.1) (by decide) (hI.2.2.2.2.2.2.2.1), sp_fr (sp_KI) (hw.2.1) (by decide) (hI.2.2.2.2.2.2.2.2.1), sp_fr (sp_AP) (hw.2.1) (by decide) (hI.2.2.2.2.2.2.2.2.2.1), sp_fr (sp_AU) (hw.2.1) (by decide) (hI.2.2.2.2.2.2.2.2.2.2.1), sp_fr (sp_AK) (hw.2.1) (by decide) (hI.2.2.2.2.2.2.2.2.2.2.2)⟩
  clear hw
  refine lv_pop F.1 F.2.1 dL_law_639 rfl ?_
  refine lv_aload_n F.1 F.2.1 dL_law_640 rfl (lv_at hl 2 rfl) ?_
  refine lv_aload_n F.1 F.2.1 dL_law_641 rfl (lv_at hl 4 rfl) ?_
  refine lv_iload F.1 F.2.1 dL_law_642 (lv_at hl 0 rfl) ?_
  refine a_ic F (1 : Int32) dL_law_644 (by decide) ?_
  refine a_iadd F dL_law_645 hi ic_1 (by omega) (fun v3 hv3 => ?_)
  refine va_sld F.1 F.2.1 hX hbl hbA hS (i_in hv3 (by omega)) dL_law_646 ?_
  refine lv_aload_n F.1 F.2.1 dL_law_647 rfl (lv_at hl 4 rfl) ?_
  refine lv_iload F.1 F.2.1 dL_law_648 (lv_at hl 0 rfl) ?_
  refine a_ic F (2 : Int32) dL_law_650 (by decide) ?_
  refine a_iadd F dL_law_651 hi ic_2 (by omega) (fun v4 hv4 => ?_)
  refine va_sld F.1 F.2.1 hX hbl hbA hS (i_in hv4 (by omega)) dL_law_652 ?_
  have ev3 : v3 = v1 := Int32.toInt_inj.mp (hv3.trans hv1.symm)
  rw [ev3]
  have ev4 : v4 = v2 := Int32.toInt_inj.mp (hv4.trans hv2.symm)
  rw [ev4]
  refine lw_Vi (o := o) (c0 := 85) F hml hl.1 hA hP hD hO hN hS (As := [.int (xs v1.toNatClampNeg), .int (xs v2.toNatClampNeg)]) (c_X12_say_85__4 l dC dI ad cA nF u1 (xs v1.toNatClampNeg) (xs v2.toNatClampNeg) hI.1 hI.2.2.2.2.2.1 hI.2.2.2.2.2.2.1 hI.2.2.2.2.2.2.2.1 hI.2.2.2.2.2.2.2.2.2.1 hI.2.2.2.2.2.2.2.2.2.2.1) ⟨callB_of 2 F.2.2.1 (tb_good qz1811) rfl rfl rfl (F.2.2.1 _ qz17) (F.2.2.1 _ qz1808) (by decide +kernel) (by decide), F.2.2.1 _ qz1809, F.2.2.1 _ qz1810⟩ tc_85 rfl rfl rfl rfl (Nat.le_of_ble_eq_true rfl) dL_law_653 hf (fun r2 u2 H locs hw hP hD hO hS => ?_)
  have hH : hxI u2 := hw.2.2.2.2.2.2.2.2 hH
  have hT : byI u2 := by_fr hw.2.1 rfl rfl hT
  have hM : imI u2 := sp_fr sp_IM hw.2.1 (by decide) hM
  have hE : eqv u2 := sp_fr sp_eqv hw.2.1 (by decide) hE
  have hI : inv0 u2 := ⟨hw.1, sp_fr (sp_nm 11 12) (hw.2.1) (by decide) (hI.2.1), sp_fr (sp_nm 20 21) (hw.2.1) (by decide) (hI.2.2.1), sp_fr (sp_nm 62 63) (hw.2.1) (by decide) (hI.2.2.2.1), sp_fr (sp_nm 71 72) (hw.2.1) (by decide) (hI.2.2.2.2.1), hw.2.2.2.1, hw.2.2.2.2.1, hw.2.2.2.2.2.1, sp_fr (sp_KI) (hw.2.1) (by decide) (hI.2.2.2.2.2.2.2.2.1), hw.2.2.2.2.2.2.1, hw.2.2.2.2.2.2.2.1, sp_fr (sp_AK) (hw.2.1) (by decide) (hI.2.2.2.2.2.2.2.2.2.2.2)⟩
  clear hw
  refine lv_pop F.1 F.2.1 dL_law_656 rfl ?_
  refine lv_goto (tgt := 1481) F.1 F.2.1 dL_law_657 (by decide) ?_
  exact W.widen cN_up.1 cN_up.2 (KK nF ad _ H locs ls ⟨hn, rfl, rfl, hN, ⟨hI, hE, hH, hT, hM⟩, hP, hD, fo, hO⟩ hS hl)
set_option maxHeartbeats 1000000 in
theorem law_c13 {p : Program} {l : Launch} {e : Env} {s : State} {m : MethodId} {below : List Frame} {meth : Method} {c : Code} {dC : Nat → ClassId} {dI : Nat → Nat → Nat} {cA : Nat → ClassId} {b L ax bm o j nF : Nat} {xs : Nat → Int32} {i : Int32} {ad : Nat → Nat} {u : ac_U} {H : Heap} {locs : List Loc} {ls : Array Slot} {Q : State → Prop} (F : ac_X p s m #[.ref b] c cL_law RL TB (dC, dI) vwCl (ac_ty cA)) (hml : c.maxLocals = 7) (hX : va_X b L xs s s.heap) (hbl : b < s.heap.size) (hL : L ≤ 3072) (hi : i.toInt = 6 * (j : Int)) (hj : 6 * j + 6 ≤ L) (hG : lw_I (dC, dI) cA ax bm o (fun q => s.heap.size ≤ q) nF ad u H) (hS : va_S (fun q => s.heap.size ≤ q) s.heap H locs) (hl : lv_has ls 7 [(4, .int i), (3, .ref o), (2, .ref bm), (1, .ref ax), (0, .ref b)])
    (KK : ∀ (nF : Nat) (ad : Nat → Nat) (u : ac_U) (H : Heap) (locs : List Loc) (ls : Array Slot), lw_I (dC, dI) cA ax bm o (fun q => s.heap.size ≤ q) nF ad u H → va_S (fun q => s.heap.size ≤ q) s.heap H locs → lv_has ls 7 [(4, .int i), (3, .ref o), (2, .ref bm), (1, .ref ax), (0, .ref b)] → W p l e room_1 s m #[.ref b] below meth c H locs (cN nF (j + 1)) (sN nF (j + 1)) Q (F0 m 1481 ls [])) : W p l e room_1 s m #[.ref b] below meth c H locs (cN nF j) (sN nF j) Q (F0 m 660 ls []) := by
  obtain ⟨hn, rfl, rfl, hN, ⟨hI, hE, hH, hT, hM⟩, hP, hD, fo, hO⟩ := hG
  have hA : ∀ q : Nat, s.heap.size ≤ q → (fun q : Nat => s.heap.size ≤ q) q := fun _ h => h
  have hbA : ¬ (fun q : Nat => s.heap.size ≤ q) b := Nat.not_le.mpr hbl
  have hf : cN nF j ≤ room_1.cells ∧ sN nF j ≤ room_1.slots := by
    have := cN_le (nF := nF) (j := j) hn (by omega)
    omega
  have hI0 := hI
  have hE0 := hE
  have hH0 := hH
  have hT0 := hT
  have hM0 := hM
  refine lv_aload_n F.1 F.2.1 dL_law_660 rfl (lv_at hl 3 rfl) ?_
  refine lv_aload_n F.1 F.2.1 dL_law_661 rfl (lv_at hl 4 rfl) ?_
  refine lv_iload F.1 F.2.1 dL_law_662 (lv_at hl 0 rfl) ?_
  refine a_ic F (1 : Int32) dL_law_664 (by decide) ?_
  refine a_iadd F dL_law_665 hi ic_1 (by omega) (fun v1 hv1 => ?_)
  refine va_sld F.1 F.2.1 hX hbl hbA hS (i_in hv1 (by omega)) dL_law_666 ?_
  refine lw_Vi (o := o) (c0 := 0) F hml hl.1 hA hP hD hO hN hS (As := [.int (xs v1.toNatClampNeg)]) (c_X11_hours_0 l dC dI ad cA nF u (xs v1.toNatClampNeg) hI.1 ) ⟨callB_of 1 F.2.2.1 (tb_good qz926) rfl rfl rfl (F.2.2.1 _ qz1) (F.2.2.1 _ qz923) (by decide +kernel) (by decide), F.2.2.1 _ qz924, F.2.2.1 _ qz925⟩ tc_0 rfl rfl rfl rfl (Nat.le_of_ble_eq_true rfl) dL_law_667 hf (fun r1 u1 H locs hw hP hD hO hS => ?_)
  have hH : hxI u1 := sp_fr sp_HX hw.2.1 (by decide) hH
  have hT : byI u1 := by_fr hw.2.1 rfl rfl hT
  have hM : imI u1 := sp_fr sp_IM hw.2.1 (by decide) hM
  have hE : eqv u1 := sp_fr sp_eqv hw.2.1 (by decide) hE
  have hI : inv0 u1 := ⟨hw.1, sp_fr (sp_nm 11 12) (hw.2.1) (by decide) (hI.2.1), sp_fr (sp_nm 20 21) (hw.2.1) (by decide) (hI.2.2.1), sp_fr (sp_nm 62 63) (hw.2.1) (by decide) (hI.2.2.2.1), sp_fr (sp_nm 71 72) (hw.2.1) (by decide) (hI.2.2.2.2.1), sp_fr (sp_MS) (hw.2.1) (by decide) (hI.2.2.2.2.2.1), sp_fr (sp_UI) (hw.2.1) (by decide) (hI.2.2.2.2.2.2.1), sp_fr (sp_CW) (hw.2.1) (by decide) (hI.2.2.2.2.2.2.2.1), sp_fr (sp_KI) (hw.2.1) (by decide) (hI.2.2.2.2.2.2.2.2.1), sp_fr (sp_AP) (hw.2.1) (by decide) (hI.2.2.2.2.2.2.2.2.2.1), sp_fr (sp_AU) (hw.2.1) (by decide) (hI.2.2.2.2.2.2.2.2.2.2.1), sp_fr (sp_AK) (hw.2.1) (by decide) (hI.2.2.2.2.2.2.2.2.2.2.2)⟩
  clear hw
  refine lv_pop F.1 F.2.1 dL_law_670 rfl ?_
  refine lv_aload_n F.1 F.2.1 dL_law_671 rfl (lv_at hl 2 rfl) ?_
  refine lv_aload_n F.1 F.2.1 dL_law_672 rfl (lv_at hl 4 rfl) ?_
  refine lv_iload F.1 F.2.1 dL_law_673 (lv_at hl 0 rfl) ?_
  refine a_ic F (1 : Int32) dL_law_675 (by decide) ?_
  refine a_iadd F dL_law_676 hi ic_1 (by omega) (fun v2 hv2 => ?_)
  refine va_sld F.1 F.2.1 hX hbl hbA hS (i_in hv2 (by omega)) dL_law_677 ?_
  have ev2 : v2 = v1 := Int32.toInt_inj.mp (hv2.trans hv1.symm)
  rw [ev2]
  refine lw_Vi (o := o) (c0 := 85) F hml hl.1 hA hP hD hO hN hS (As := [.int (xs v1.toNatClampNeg)]) (c_X12_hours_85__4 l dC dI ad cA nF u1 (xs v1.toNatClampNeg) hI.1 hI.2.2.2.2.2.1 hI.2.2.2.2.2.2.1 hI.2.2.2.2.2.2.2.1 hI.2.2.2.2.2.2.2.2.2.1 hI.2.2.2.2.2.2.2.2.2.2.1) ⟨callB_of 1 F.2.2.1 (tb_good qz1823) rfl rfl rfl (F.2.2.1 _ qz17) (F.2.2.1 _ qz1820) (by decide +kernel) (by decide), F.2.2.1 _ qz1821, F.2.2.1 _ qz1822⟩ tc_85 rfl rfl rfl rfl (Nat.le_of_ble_eq_true rfl) dL_law_678 hf (fun r2 u2 H locs hw hP hD hO hS => ?_)
  have hH : hxI u2 := hw.2.2.2.2.2.2.2.2 hH
  have hT : byI u2 := by_fr hw.2.1 rfl rfl hT
  have hM : imI u2 := sp_fr sp_IM hw.2.1 (by decide) hM
  have hE : eqv u2 := sp_fr sp_eqv hw.2.1 (by decide) hE
  have hI : inv0 u2 := ⟨hw.1, sp_fr (sp_nm 11 12) (hw.2.1) (by decide) (hI.2.1), sp_fr (sp_nm 20 21) (hw.2.1) (by decide) (hI.2.2.1), sp_fr (sp_nm 62 63) (hw.2.1) (by decide) (hI.2.2.2.1), sp_fr (sp_nm 71 72) (hw.2.1) (by decide) (hI.2.2.2.2.1), hw.2.2.2.1, hw.2.2.2.2.1, hw.2.2.2.2.2.1, sp_fr (sp_KI) (hw.2.1) (by decide) (hI.2.2.2.2.2.2.2.2.1), hw.2.2.2.2.2.2.1, hw.2.2.2.2.2.2.2.1, sp_fr (sp_AK) (hw.2.1) (by decide) (hI.2.2.2.2.2.2.2.2.2.2.2)⟩
  clear hw
  refine lv_pop F.1 F.2.1 dL_law_681 rfl ?_
  refine lv_goto (tgt := 1481) F.1 F.2.1 dL_law_682 (by decide) ?_
  exact W.widen cN_up.1 cN_up.2 (KK nF ad _ H locs ls ⟨hn, rfl, rfl, hN, ⟨hI, hE, hH, hT, hM⟩, hP, hD, fo, hO⟩ hS hl)
set_option maxHeartbeats 1000000 in
theorem law_c14 {p : Program} {l : Launch} {e : Env} {s : State} {m : MethodId} {below : List Frame} {meth : Method} {c : Code} {dC : Nat → ClassId} {dI : Nat → Nat → Nat} {cA : Nat → ClassId} {b L ax bm o j nF : Nat} {xs : Nat → Int32} {i : Int32} {ad : Nat → Nat} {u : ac_U} {H : Heap} {locs : List Loc} {ls : Array Slot} {Q : State → Prop} (F : ac_X p s m #[.ref b] c cL_law RL TB (dC, dI) vwCl (ac_ty cA)) (hml : c.maxLocals = 7) (hX : va_X b L xs s s.heap) (hbl : b < s.heap.size) (hL : L ≤ 3072) (hi : i.toInt = 6 * (j : Int)) (hj : 6 * j + 6 ≤ L) (hG : lw_I (dC, dI) cA ax bm o (fun q => s.heap.size ≤ q) nF ad u H) (hS : va_S (fun q => s.heap.size ≤ q) s.heap H locs) (hl : lv_has ls 7 [(4, .int i), (3, .ref o), (2, .ref bm), (1, .ref ax), (0, .ref b)])
    (KK : ∀ (nF : Nat) (ad : Nat → Nat) (u : ac_U) (H : Heap) (locs : List Loc) (ls : Array Slot), lw_I (dC, dI) cA ax bm o (fun q => s.heap.size ≤ q) nF ad u H → va_S (fun q => s.heap.size ≤ q) s.heap H locs → lv_has ls 7 [(4, .int i), (3, .ref o), (2, .ref bm), (1, .ref ax), (0, .ref b)] → W p l e room_1 s m #[.ref b] below meth c H locs (cN nF (j + 1)) (sN nF (j + 1)) Q (F0 m 1481 ls [])) : W p l e room_1 s m #[.ref b] below meth c H locs (cN nF j) (sN nF j) Q (F0 m 685 ls []) := by
  obtain ⟨hn, rfl, rfl, hN, ⟨hI, hE, hH, hT, hM⟩, hP, hD, fo, hO⟩ := hG
  have hA : ∀ q : Nat, s.heap.size ≤ q → (fun q : Nat => s.heap.size ≤ q) q := fun _ h => h
  have hbA : ¬ (fun q : Nat => s.heap.size ≤ q) b := Nat.not_le.mpr hbl
  have hf : cN nF j ≤ room_1.cells ∧ sN nF j ≤ room_1.slots := by
    have := cN_le (nF := nF) (j := j) hn (by omega)
    omega
  have hI0 := hI
  have hE0 := hE
  have hH0 := hH
  have hT0 := hT
  have hM0 := hM
  refine lv_aload_n F.1 F.2.1 dL_law_685 rfl (lv_at hl 3 rfl) ?_
  refine lv_aload_n F.1 F.2.1 dL_law_686 rfl (lv_at hl 4 rfl) ?_
  refine lv_iload F.1 F.2.1 dL_law_687 (lv_at hl 0 rfl) ?_
  refine a_ic F (1 : Int32) dL_law_689 (by decide) ?_
  refine a_iadd F dL_law_690 hi ic_1 (by omega) (fun v1 hv1 => ?_)
  refine va_sld F.1 F.2.1 hX hbl hbA hS (i_in hv1 (by omega)) dL_law_691 ?_
  refine lv_aload_n F.1 F.2.1 dL_law_692 rfl (lv_at hl 4 rfl) ?_
  refine lv_iload F.1 F.2.1 dL_law_693 (lv_at hl 0 rfl) ?_
  refine a_ic F (2 : Int32) dL_law_695 (by decide) ?_
  refine a_iadd F dL_law_696 hi ic_2 (by omega) (fun v2 hv2 => ?_)
  refine va_sld F.1 F.2.1 hX hbl hbA hS (i_in hv2 (by omega)) dL_law_697 ?_
  refine lw_Vi (o := o) (c0 := 0) F hml hl.1 hA hP hD hO hN hS (As := [.int (xs v1.toNatClampNeg), .int (xs v2.toNatClampNeg)]) (c_X11_done_0 l dC dI ad cA nF u (xs v1.toNatClampNeg) (xs v2.toNatClampNeg) hI.1 ) ⟨callB_of 2 F.2.2.1 (tb_good qz935) rfl rfl rfl (F.2.2.1 _ qz1) (F.2.2.1 _ qz932) (by decide +kernel) (by decide), F.2.2.1 _ qz933, F.2.2.1 _ qz934⟩ tc_0 rfl rfl rfl rfl (Nat.le_of_ble_eq_true rfl) dL_law_698 hf (fun r1 u1 H locs hw hP hD hO hS => ?_)
  have hH : hxI u1 := by rw [hw]; exact hH
  have hT : byI u1 := by rw [hw]; exact hT
  have hM : imI u1 := by rw [hw]; exact hM
  have hE : eqv u1 := by rw [hw]; exact hE
  have hI : inv0 u1 := by rw [hw]; exact hI
  clear hw
  refine lv_pop F.1 F.2.1 dL_law_701 rfl ?_
  refine lv_aload_n F.1 F.2.1 dL_law_702 rfl (lv_at hl 2 rfl) ?_
  refine lv_aload_n F.1 F.2.1 dL_law_703 rfl (lv_at hl 4 rfl) ?_
  refine lv_iload F.1 F.2.1 dL_law_704 (lv_at hl 0 rfl) ?_
  refine a_ic F (1 : Int32) dL_law_706 (by decide) ?_
  refine a_iadd F dL_law_707 hi ic_1 (by omega) (fun v3 hv3 => ?_)
  refine va_sld F.1 F.2.1 hX hbl hbA hS (i_in hv3 (by omega)) dL_law_708 ?_
  refine lv_aload_n F.1 F.2.1 dL_law_709 rfl (lv_at hl 4 rfl) ?_
  refine lv_iload F.1 F.2.1 dL_law_710 (lv_at hl 0 rfl) ?_
  refine a_ic F (2 : Int32) dL_law_712 (by decide) ?_
  refine a_iadd F dL_law_713 hi ic_2 (by omega) (fun v4 hv4 => ?_)
  refine va_sld F.1 F.2.1 hX hbl hbA hS (i_in hv4 (by omega)) dL_law_714 ?_
  have ev3 : v3 = v1 := Int32.toInt_inj.mp (hv3.trans hv1.symm)
  rw [ev3]
  have ev4 : v4 = v2 := Int32.toInt_inj.mp (hv4.trans hv2.symm)
  rw [ev4]
  refine lw_Vi (o := o) (c0 := 85) F hml hl.1 hA hP hD hO hN hS (As := [.int (xs v1.toNatClampNeg), .int (xs v2.toNatClampNeg)]) (c_X12_done_85 l dC dI ad cA nF u1 (xs v1.toNatClampNeg) (xs v2.toNatClampNeg) hI.1 ) ⟨callB_of 2 F.2.2.1 (tb_good qz1831) rfl rfl rfl (F.2.2.1 _ qz17) (F.2.2.1 _ qz1828) (by decide +kernel) (by decide), F.2.2.1 _ qz1829, F.2.2.1 _ qz1830⟩ tc_85 rfl rfl rfl rfl (Nat.le_of_ble_eq_true rfl) dL_law_715 hf (fun r2 u2 H locs hw hP hD hO hS => ?_)
  have hH : hxI u2 := sp_fr sp_HX hw.2 (by decide) hH
  have hT : byI u2 := by_fr hw.2 rfl rfl hT
  have hM : imI u2 := sp_fr sp_IM hw.2 (by decide) hM
  have hE : eqv u2 := sp_fr sp_eqv hw.2 (by decide) hE
  have hI : inv0 u2 := ⟨hw.1, sp_fr (sp_nm 11 12) (hw.2) (by decide) (hI.2.1), sp_fr (sp_nm 20 21) (hw.2) (by decide) (hI.2.2.1), sp_fr (sp_nm 62 63) (hw.2) (by decide) (hI.2.2.2.1), sp_fr (sp_nm 71 72) (hw.2) (by decide) (hI.2.2.2.2.1), sp_fr (sp_MS) (hw.2) (by decide) (hI.2.2.2.2.2.1), sp_fr (sp_UI) (hw.2) (by decide) (hI.2.2.2.2.2.2.1), sp_fr (sp_CW) (hw.2) (by decide) (hI.2.2.2.2.2.2.2.1), sp_fr (sp_KI) (hw.2) (by decide) (hI.2.2.2.2.2.2.2.2.1), sp_fr (sp_AP) (hw.2) (by decide) (hI.2.2.2.2.2.2.2.2.2.1), sp_fr (sp_AU) (hw.2) (by decide) (hI.2.2.2.2.2.2.2.2.2.2.1), sp_fr (sp_AK) (hw.2) (by decide) (hI.2.2.2.2.2.2.2.2.2.2.2)⟩
  clear hw
  refine lv_pop F.1 F.2.1 dL_law_718 rfl ?_
  refine lv_goto (tgt := 1481) F.1 F.2.1 dL_law_719 (by decide) ?_
  exact W.widen cN_up.1 cN_up.2 (KK nF ad _ H locs ls ⟨hn, rfl, rfl, hN, ⟨hI, hE, hH, hT, hM⟩, hP, hD, fo, hO⟩ hS hl)
set_option maxHeartbeats 1000000 in
theorem law_c15 {p : Program} {l : Launch} {e : Env} {s : State} {m : MethodId} {below : List Frame} {meth : Method} {c : Code} {dC : Nat → ClassId} {dI : Nat → Nat → Nat} {cA : Nat → ClassId} {b L ax bm o j nF : Nat} {xs : Nat → Int32} {i : Int32} {ad : Nat → Nat} {u : ac_U} {H : Heap} {locs : List Loc} {ls : Array Slot} {Q : State → Prop} (F : ac_X p s m #[.ref b] c cL_law RL TB (dC, dI) vwCl (ac_ty cA)) (hml : c.maxLocals = 7) (hX : va_X b L xs s s.heap) (hbl : b < s.heap.size) (hL : L ≤ 3072) (hi : i.toInt = 6 * (j : Int)) (hj : 6 * j + 6 ≤ L) (hG : lw_I (dC, dI) cA ax bm o (fun q => s.heap.size ≤ q) nF ad u H) (hS : va_S (fun q => s.heap.size ≤ q) s.heap H locs) (hl : lv_has ls 7 [(4, .int i), (3, .ref o), (2, .ref bm), (1, .ref ax), (0, .ref b)])
    (KK : ∀ (nF : Nat) (ad : Nat → Nat) (u : ac_U) (H : Heap) (locs : List Loc) (ls : Array Slot), lw_I (dC, dI) cA ax bm o (fun q => s.heap.size ≤ q) nF ad u H → va_S (fun q => s.heap.size ≤ q) s.heap H locs → lv_has ls 7 [(4, .int i), (3, .ref o), (2, .ref bm), (1, .ref ax), (0, .ref b)] → W p l e room_1 s m #[.ref b] below meth c H locs (cN nF (j + 1)) (sN nF (j + 1)) Q (F0 m 1481 ls [])) : W p l e room_1 s m #[.ref b] below meth c H locs (cN nF j) (sN nF j) Q (F0 m 722 ls []) := by
  obtain ⟨hn, rfl, rfl, hN, ⟨hI, hE, hH, hT, hM⟩, hP, hD, fo, hO⟩ := hG
  have hA : ∀ q : Nat, s.heap.size ≤ q → (fun q : Nat => s.heap.size ≤ q) q := fun _ h => h
  have hbA : ¬ (fun q : Nat => s.heap.size ≤ q) b := Nat.not_le.mpr hbl
  have hf : cN nF j ≤ room_1.cells ∧ sN nF j ≤ room_1.slots := by
    have := cN_le (nF := nF) (j := j) hn (by omega)
    omega
  have hI0 := hI
  have hE0 := hE
  have hH0 := hH
  have hT0 := hT
  have hM0 := hM
  refine lv_aload_n F.1 F.2.1 dL_law_722 rfl (lv_at hl 3 rfl) ?_
  refine lw_Vi (o := o) (c0 := 0) F hml hl.1 hA hP hD hO hN hS (As := []) (c_X11_undo_0 l dC dI ad cA nF u  hI.1 ) ⟨callB_of 0 F.2.2.1 (tb_good qz940) rfl rfl rfl (F.2.2.1 _ qz1) (F.2.2.1 _ qz937) (by decide +kernel) (by decide), F.2.2.1 _ qz938, F.2.2.1 _ qz939⟩ tc_0 rfl rfl rfl rfl (Nat.le_of_ble_eq_true rfl) dL_law_723 hf (fun r1 u1 H locs hw hP hD hO hS => ?_)
  have hH : hxI u1 := sp_fr sp_HX hw.2.1 (by decide) hH
  have hT : byI u1 := by_fr hw.2.1 rfl rfl hT
  have hM : imI u1 := sp_fr sp_IM hw.2.1 (by decide) hM
  have hE : eqv u1 := sp_fr sp_eqv hw.2.1 (by decide) hE
  have hI : inv0 u1 := ⟨hw.1, sp_fr (sp_nm 11 12) (hw.2.1) (by decide) (hI.2.1), sp_fr (sp_nm 20 21) (hw.2.1) (by decide) (hI.2.2.1), sp_fr (sp_nm 62 63) (hw.2.1) (by decide) (hI.2.2.2.1), sp_fr (sp_nm 71 72) (hw.2.1) (by decide) (hI.2.2.2.2.1), sp_fr (sp_MS) (hw.2.1) (by decide) (hI.2.2.2.2.2.1), sp_fr (sp_UI) (hw.2.1) (by decide) (hI.2.2.2.2.2.2.1), sp_fr (sp_CW) (hw.2.1) (by decide) (hI.2.2.2.2.2.2.2.1), sp_fr (sp_KI) (hw.2.1) (by decide) (hI.2.2.2.2.2.2.2.2.1), sp_fr (sp_AP) (hw.2.1) (by decide) (hI.2.2.2.2.2.2.2.2.2.1), sp_fr (sp_AU) (hw.2.1) (by decide) (hI.2.2.2.2.2.2.2.2.2.2.1), sp_fr (sp_AK) (hw.2.1) (by decide) (hI.2.2.2.2.2.2.2.2.2.2.2)⟩
  clear hw
  refine lv_pop F.1 F.2.1 dL_law_726 rfl ?_
  refine lv_aload_n F.1 F.2.1 dL_law_727 rfl (lv_at hl 2 rfl) ?_
  refine lw_Vi (o := o) (c0 := 85) F hml hl.1 hA hP hD hO hN hS (As := []) (c_X12_undo_85__4 l dC dI ad cA nF u1  hI.1 hI.2.2.2.2.2.1 hI.2.2.2.2.2.2.1 hI.2.2.2.2.2.2.2.1 hI.2.2.2.2.2.2.2.2.2.1 hI.2.2.2.2.2.2.2.2.2.2.1) ⟨callB_of 0 F.2.2.1 (tb_good qz1835) rfl rfl rfl (F.2.2.1 _ qz17) (F.2.2.1 _ qz1832) (by decide +kernel) (by decide), F.2.2.1 _ qz1833, F.2.2.1 _ qz1834⟩ tc_85 rfl rfl rfl rfl (Nat.le_of_ble_eq_true rfl) dL_law_728 hf (fun r2 u2 H locs hw hP hD hO hS => ?_)
  have hH : hxI u2 := hw.2.2.2.2.2.2.2.2 hH
  have hT : byI u2 := by_fr hw.2.1 rfl rfl hT
  have hM : imI u2 := sp_fr sp_IM hw.2.1 (by decide) hM
  have hE : eqv u2 := sp_fr sp_eqv hw.2.1 (by decide) hE
  have hI : inv0 u2 := ⟨hw.1, sp_fr (sp_nm 11 12) (hw.2.1) (by decide) (hI.2.1), sp_fr (sp_nm 20 21) (hw.2.1) (by decide) (hI.2.2.1), sp_fr (sp_nm 62 63) (hw.2.1) (by decide) (hI.2.2.2.1), sp_fr (sp_nm 71 72) (hw.2.1) (by decide) (hI.2.2.2.2.1), hw.2.2.2.1, hw.2.2.2.2.1, hw.2.2.2.2.2.1, sp_fr (sp_KI) (hw.2.1) (by decide) (hI.2.2.2.2.2.2.2.2.1), hw.2.2.2.2.2.2.1, hw.2.2.2.2.2.2.2.1, sp_fr (sp_AK) (hw.2.1) (by decide) (hI.2.2.2.2.2.2.2.2.2.2.2)⟩
  clear hw
  refine lv_pop F.1 F.2.1 dL_law_731 rfl ?_
  refine lv_goto (tgt := 1481) F.1 F.2.1 dL_law_732 (by decide) ?_
  exact W.widen cN_up.1 cN_up.2 (KK nF ad _ H locs ls ⟨hn, rfl, rfl, hN, ⟨hI, hE, hH, hT, hM⟩, hP, hD, fo, hO⟩ hS hl)
set_option maxHeartbeats 1000000 in
theorem law_c16 {p : Program} {l : Launch} {e : Env} {s : State} {m : MethodId} {below : List Frame} {meth : Method} {c : Code} {dC : Nat → ClassId} {dI : Nat → Nat → Nat} {cA : Nat → ClassId} {b L ax bm o j nF : Nat} {xs : Nat → Int32} {i : Int32} {ad : Nat → Nat} {u : ac_U} {H : Heap} {locs : List Loc} {ls : Array Slot} {Q : State → Prop} (F : ac_X p s m #[.ref b] c cL_law RL TB (dC, dI) vwCl (ac_ty cA)) (hml : c.maxLocals = 7) (hX : va_X b L xs s s.heap) (hbl : b < s.heap.size) (hL : L ≤ 3072) (hi : i.toInt = 6 * (j : Int)) (hj : 6 * j + 6 ≤ L) (hG : lw_I (dC, dI) cA ax bm o (fun q => s.heap.size ≤ q) nF ad u H) (hS : va_S (fun q => s.heap.size ≤ q) s.heap H locs) (hl : lv_has ls 7 [(4, .int i), (3, .ref o), (2, .ref bm), (1, .ref ax), (0, .ref b)])
    (KK : ∀ (nF : Nat) (ad : Nat → Nat) (u : ac_U) (H : Heap) (locs : List Loc) (ls : Array Slot), lw_I (dC, dI) cA ax bm o (fun q => s.heap.size ≤ q) nF ad u H → va_S (fun q => s.heap.size ≤ q) s.heap H locs → lv_has ls 7 [(4, .int i), (3, .ref o), (2, .ref bm), (1, .ref ax), (0, .ref b)] → W p l e room_1 s m #[.ref b] below meth c H locs (cN nF (j + 1)) (sN nF (j + 1)) Q (F0 m 1481 ls [])) : W p l e room_1 s m #[.ref b] below meth c H locs (cN nF j) (sN nF j) Q (F0 m 735 ls []) := by
  obtain ⟨hn, rfl, rfl, hN, ⟨hI, hE, hH, hT, hM⟩, hP, hD, fo, hO⟩ := hG
  have hA : ∀ q : Nat, s.heap.size ≤ q → (fun q : Nat => s.heap.size ≤ q) q := fun _ h => h
  have hbA : ¬ (fun q : Nat => s.heap.size ≤ q) b := Nat.not_le.mpr hbl
  have hf : cN nF j ≤ room_1.cells ∧ sN nF j ≤ room_1.slots := by
    have := cN_le (nF := nF) (j := j) hn (by omega)
    omega
  have hI0 := hI
  have hE0 := hE
  have hH0 := hH
  have hT0 := hT
  have hM0 := hM
  refine lv_aload_n F.1 F.2.1 dL_law_735 rfl (lv_at hl 3 rfl) ?_
  refine lv_aload_n F.1 F.2.1 dL_law_736 rfl (lv_at hl 4 rfl) ?_
  refine lv_iload F.1 F.2.1 dL_law_737 (lv_at hl 0 rfl) ?_
  refine a_ic F (1 : Int32) dL_law_739 (by decide) ?_
  refine a_iadd F dL_law_740 hi ic_1 (by omega) (fun v1 hv1 => ?_)
  refine va_sld F.1 F.2.1 hX hbl hbA hS (i_in hv1 (by omega)) dL_law_741 ?_
  refine lv_aload_n F.1 F.2.1 dL_law_742 rfl (lv_at hl 4 rfl) ?_
  refine lv_iload F.1 F.2.1 dL_law_743 (lv_at hl 0 rfl) ?_
  refine a_ic F (2 : Int32) dL_law_745 (by decide) ?_
  refine a_iadd F dL_law_746 hi ic_2 (by omega) (fun v2 hv2 => ?_)
  refine va_sld F.1 F.2.1 hX hbl hbA hS (i_in hv2 (by omega)) dL_law_747 ?_
  refine lw_Vi (o := o) (c0 := 0) F hml hl.1 hA hP hD hO hN hS (As := [.int (xs v1.toNatClampNeg), .int (xs v2.toNatClampNeg)]) (c_X11_status_0 l dC dI ad cA nF u (xs v1.toNatClampNeg) (xs v2.toNatClampNeg) hI.1 ) ⟨callB_of 2 F.2.2.1 (tb_good qz948) rfl rfl rfl (F.2.2.1 _ qz1) (F.2.2.1 _ qz945) (by decide +kernel) (by decide), F.2.2.1 _ qz946, F.2.2.1 _ qz947⟩ tc_0 rfl rfl rfl rfl (Nat.le_of_ble_eq_true rfl) dL_law_748 hf (fun r1 u1 H locs hw hP hD hO hS => ?_)
  have hH : hxI u1 := sp_fr sp_HX hw.2.1 (by decide) hH
  have hT : byI u1 := by_fr hw.2.1 rfl rfl hT
  have hM : imI u1 := sp_fr sp_IM hw.2.1 (by decide) hM
  have hE : eqv u1 := sp_fr sp_eqv hw.2.1 (by decide) hE
  have hI : inv0 u1 := ⟨hw.1, sp_fr (sp_nm 11 12) (hw.2.1) (by decide) (hI.2.1), sp_fr (sp_nm 20 21) (hw.2.1) (by decide) (hI.2.2.1), sp_fr (sp_nm 62 63) (hw.2.1) (by decide) (hI.2.2.2.1), sp_fr (sp_nm 71 72) (hw.2.1) (by decide) (hI.2.2.2.2.1), sp_fr (sp_MS) (hw.2.1) (by decide) (hI.2.2.2.2.2.1), sp_fr (sp_UI) (hw.2.1) (by decide) (hI.2.2.2.2.2.2.1), sp_fr (sp_CW) (hw.2.1) (by decide) (hI.2.2.2.2.2.2.2.1), sp_fr (sp_KI) (hw.2.1) (by decide) (hI.2.2.2.2.2.2.2.2.1), sp_fr (sp_AP) (hw.2.1) (by decide) (hI.2.2.2.2.2.2.2.2.2.1), sp_fr (sp_AU) (hw.2.1) (by decide) (hI.2.2.2.2.2.2.2.2.2.2.1), sp_fr (sp_AK) (hw.2.1) (by decide) (hI.2.2.2.2.2.2.2.2.2.2.2)⟩
  clear hw
  refine lv_pop F.1 F.2.1 dL_law_751 rfl ?_
  refine lv_aload_n F.1 F.2.1 dL_law_752 rfl (lv_at hl 2 rfl) ?_
  refine lv_aload_n F.1 F.2.1 dL_law_753 rfl (lv_at hl 4 rfl) ?_
  refine lv_iload F.1 F.2.1 dL_law_754 (lv_at hl 0 rfl) ?_
  refine a_ic F (1 : Int32) dL_law_756 (by decide) ?_
  refine a_iadd F dL_law_757 hi ic_1 (by omega) (fun v3 hv3 => ?_)
  refine va_sld F.1 F.2.1 hX hbl hbA hS (i_in hv3 (by omega)) dL_law_758 ?_
  refine lv_aload_n F.1 F.2.1 dL_law_759 rfl (lv_at hl 4 rfl) ?_
  refine lv_iload F.1 F.2.1 dL_law_760 (lv_at hl 0 rfl) ?_
  refine a_ic F (2 : Int32) dL_law_762 (by decide) ?_
  refine a_iadd F dL_law_763 hi ic_2 (by omega) (fun v4 hv4 => ?_)
  refine va_sld F.1 F.2.1 hX hbl hbA hS (i_in hv4 (by omega)) dL_law_764 ?_
  have ev3 : v3 = v1 := Int32.toInt_inj.mp (hv3.trans hv1.symm)
  rw [ev3]
  have ev4 : v4 = v2 := Int32.toInt_inj.mp (hv4.trans hv2.symm)
  rw [ev4]
  refine lw_Vi (o := o) (c0 := 85) F hml hl.1 hA hP hD hO hN hS (As := [.int (xs v1.toNatClampNeg), .int (xs v2.toNatClampNeg)]) (c_X12_status_85 l dC dI ad cA nF u1 (xs v1.toNatClampNeg) (xs v2.toNatClampNeg) hI.1 ) ⟨callB_of 2 F.2.2.1 (tb_good qz1839) rfl rfl rfl (F.2.2.1 _ qz17) (F.2.2.1 _ qz1836) (by decide +kernel) (by decide), F.2.2.1 _ qz1837, F.2.2.1 _ qz1838⟩ tc_85 rfl rfl rfl rfl (Nat.le_of_ble_eq_true rfl) dL_law_765 hf (fun r2 u2 H locs hw hP hD hO hS => ?_)
  have hH : hxI u2 := sp_fr sp_HX hw.2.1 (by decide) hH
  have hT : byI u2 := by_fr hw.2.1 rfl rfl hT
  have hM : imI u2 := sp_fr sp_IM hw.2.1 (by decide) hM
  have hE : eqv u2 := sp_fr sp_eqv hw.2.1 (by decide) hE
  have hI : inv0 u2 := ⟨hw.1, sp_fr (sp_nm 11 12) (hw.2.1) (by decide) (hI.2.1), sp_fr (sp_nm 20 21) (hw.2.1) (by decide) (hI.2.2.1), sp_fr (sp_nm 62 63) (hw.2.1) (by decide) (hI.2.2.2.1), sp_fr (sp_nm 71 72) (hw.2.1) (by decide) (hI.2.2.2.2.1), sp_fr (sp_MS) (hw.2.1) (by decide) (hI.2.2.2.2.2.1), sp_fr (sp_UI) (hw.2.1) (by decide) (hI.2.2.2.2.2.2.1), sp_fr (sp_CW) (hw.2.1) (by decide) (hI.2.2.2.2.2.2.2.1), sp_fr (sp_KI) (hw.2.1) (by decide) (hI.2.2.2.2.2.2.2.2.1), sp_fr (sp_AP) (hw.2.1) (by decide) (hI.2.2.2.2.2.2.2.2.2.1), sp_fr (sp_AU) (hw.2.1) (by decide) (hI.2.2.2.2.2.2.2.2.2.2.1), sp_fr (sp_AK) (hw.2.1) (by decide) (hI.2.2.2.2.2.2.2.2.2.2.2)⟩
  clear hw
  refine lv_pop F.1 F.2.1 dL_law_768 rfl ?_
  refine lv_goto (tgt := 1481) F.1 F.2.1 dL_law_769 (by decide) ?_
  exact W.widen cN_up.1 cN_up.2 (KK nF ad _ H locs ls ⟨hn, rfl, rfl, hN, ⟨hI, hE, hH, hT, hM⟩, hP, hD, fo, hO⟩ hS hl)
set_option maxHeartbeats 1000000 in
theorem law_c17 {p : Program} {l : Launch} {e : Env} {s : State} {m : MethodId} {below : List Frame} {meth : Method} {c : Code} {dC : Nat → ClassId} {dI : Nat → Nat → Nat} {cA : Nat → ClassId} {b L ax bm o j nF : Nat} {xs : Nat → Int32} {i : Int32} {ad : Nat → Nat} {u : ac_U} {H : Heap} {locs : List Loc} {ls : Array Slot} {Q : State → Prop} (F : ac_X p s m #[.ref b] c cL_law RL TB (dC, dI) vwCl (ac_ty cA)) (hml : c.maxLocals = 7) (hX : va_X b L xs s s.heap) (hbl : b < s.heap.size) (hL : L ≤ 3072) (hi : i.toInt = 6 * (j : Int)) (hj : 6 * j + 6 ≤ L) (hG : lw_I (dC, dI) cA ax bm o (fun q => s.heap.size ≤ q) nF ad u H) (hS : va_S (fun q => s.heap.size ≤ q) s.heap H locs) (hl : lv_has ls 7 [(4, .int i), (3, .ref o), (2, .ref bm), (1, .ref ax), (0, .ref b)])
    (KK : ∀ (nF : Nat) (ad : Nat → Nat) (u : ac_U) (H : Heap) (locs : List Loc) (ls : Array Slot), lw_I (dC, dI) cA ax bm o (fun q => s.heap.size ≤ q) nF ad u H → va_S (fun q => s.heap.size ≤ q) s.heap H locs → lv_has ls 7 [(4, .int i), (3, .ref o), (2, .ref bm), (1, .ref ax), (0, .ref b)] → W p l e room_1 s m #[.ref b] below meth c H locs (cN nF (j + 1)) (sN nF (j + 1)) Q (F0 m 1481 ls [])) : W p l e room_1 s m #[.ref b] below meth c H locs (cN nF j) (sN nF j) Q (F0 m 772 ls []) := by
  obtain ⟨hn, rfl, rfl, hN, ⟨hI, hE, hH, hT, hM⟩, hP, hD, fo, hO⟩ := hG
  have hA : ∀ q : Nat, s.heap.size ≤ q → (fun q : Nat => s.heap.size ≤ q) q := fun _ h => h
  have hbA : ¬ (fun q : Nat => s.heap.size ≤ q) b := Nat.not_le.mpr hbl
  have hf : cN nF j ≤ room_1.cells ∧ sN nF j ≤ room_1.slots := by
    have := cN_le (nF := nF) (j := j) hn (by omega)
    omega
  have hI0 := hI
  have hE0 := hE
  have hH0 := hH
  have hT0 := hT
  have hM0 := hM
  refine lv_aload_n F.1 F.2.1 dL_law_772 rfl (lv_at hl 3 rfl) ?_
  refine lv_aload_n F.1 F.2.1 dL_law_773 rfl (lv_at hl 4 rfl) ?_
  refine lv_iload F.1 F.2.1 dL_law_774 (lv_at hl 0 rfl) ?_
  refine a_ic F (1 : Int32) dL_law_776 (by decide) ?_
  refine a_iadd F dL_law_777 hi ic_1 (by omega) (fun v1 hv1 => ?_)
  refine va_sld F.1 F.2.1 hX hbl hbA hS (i_in hv1 (by omega)) dL_law_778 ?_
  refine lv_aload_n F.1 F.2.1 dL_law_779 rfl (lv_at hl 4 rfl) ?_
  refine lv_iload F.1 F.2.1 dL_law_780 (lv_at hl 0 rfl) ?_
  refine a_ic F (2 : Int32) dL_law_782 (by decide) ?_
  refine a_iadd F dL_law_783 hi ic_2 (by omega) (fun v2 hv2 => ?_)
  refine va_sld F.1 F.2.1 hX hbl hbA hS (i_in hv2 (by omega)) dL_law_784 ?_
  refine lw_Vi (o := o) (c0 := 0) F hml hl.1 hA hP hD hO hN hS (As := [.int (xs v1.toNatClampNeg), .int (xs v2.toNatClampNeg)]) (c_X11_readings_0 l dC dI ad cA nF u (xs v1.toNatClampNeg) (xs v2.toNatClampNeg) hI.1 ) ⟨callB_of 2 F.2.2.1 (tb_good qz959) rfl rfl rfl (F.2.2.1 _ qz1) (F.2.2.1 _ qz956) (by decide +kernel) (by decide), F.2.2.1 _ qz957, F.2.2.1 _ qz958⟩ tc_0 rfl rfl rfl rfl (Nat.le_of_ble_eq_true rfl) dL_law_785 hf (fun r1 u1 H locs hw hP hD hO hS => ?_)
  have hH : hxI u1 := sp_fr sp_HX hw.2.1 (by decide) hH
  have hT : byI u1 := by_fr hw.2.1 rfl rfl hT
  have hM : imI u1 := sp_fr sp_IM hw.2.1 (by decide) hM
  have hE : eqv u1 := sp_fr sp_eqv hw.2.1 (by decide) hE
  have hI : inv0 u1 := ⟨hw.1, sp_fr (sp_nm 11 12) (hw.2.1) (by decide) (hI.2.1), sp_fr (sp_nm 20 21) (hw.2.1) (by decide) (hI.2.2.1), sp_fr (sp_nm 62 63) (hw.2.1) (by decide) (hI.2.2.2.1), sp_fr (sp_nm 71 72) (hw.2.1) (by decide) (hI.2.2.2.2.1), sp_fr (sp_MS) (hw.2.1) (by decide) (hI.2.2.2.2.2.1), sp_fr (sp_UI) (hw.2.1) (by decide) (hI.2.2.2.2.2.2.1), sp_fr (sp_CW) (hw.2.1) (by decide) (hI.2.2.2.2.2.2.2.1), sp_fr (sp_KI) (hw.2.1) (by decide) (hI.2.2.2.2.2.2.2.2.1), sp_fr (sp_AP) (hw.2.1) (by decide) (hI.2.2.2.2.2.2.2.2.2.1), sp_fr (sp_AU) (hw.2.1) (by decide) (hI.2.2.2.2.2.2.2.2.2.2.1), sp_fr (sp_AK) (hw.2.1) (by decide) (hI.2.2.2.2.2.2.2.2.2.2.2)⟩
  clear hw
  refine lv_pop F.1 F.2.1 dL_law_788 rfl ?_
  refine lv_aload_n F.1 F.2.1 dL_law_789 rfl (lv_at hl 2 rfl) ?_
  refine lv_aload_n F.1 F.2.1 dL_law_790 rfl (lv_at hl 4 rfl) ?_
  refine lv_iload F.1 F.2.1 dL_law_791 (lv_at hl 0 rfl) ?_
  refine a_ic F (1 : Int32) dL_law_793 (by decide) ?_
  refine a_iadd F dL_law_794 hi ic_1 (by omega) (fun v3 hv3 => ?_)
  refine va_sld F.1 F.2.1 hX hbl hbA hS (i_in hv3 (by omega)) dL_law_795 ?_
  refine lv_aload_n F.1 F.2.1 dL_law_796 rfl (lv_at hl 4 rfl) ?_
  refine lv_iload F.1 F.2.1 dL_law_797 (lv_at hl 0 rfl) ?_
  refine a_ic F (2 : Int32) dL_law_799 (by decide) ?_
  refine a_iadd F dL_law_800 hi ic_2 (by omega) (fun v4 hv4 => ?_)
  refine va_sld F.1 F.2.1 hX hbl hbA hS (i_in hv4 (by omega)) dL_law_801 ?_
  have ev3 : v3 = v1 := Int32.toInt_inj.mp (hv3.trans hv1.symm)
  rw [ev3]
  have ev4 : v4 = v2 := Int32.toInt_inj.mp (hv4.trans hv2.symm)
  rw [ev4]
  refine lw_Vi (o := o) (c0 := 85) F hml hl.1 hA hP hD hO hN hS (As := [.int (xs v1.toNatClampNeg), .int (xs v2.toNatClampNeg)]) (c_X12_readings_85 l dC dI ad cA nF u1 (xs v1.toNatClampNeg) (xs v2.toNatClampNeg) hI.1 ) ⟨callB_of 2 F.2.2.1 (tb_good qz1847) rfl rfl rfl (F.2.2.1 _ qz17) (F.2.2.1 _ qz1844) (by decide +kernel) (by decide), F.2.2.1 _ qz1845, F.2.2.1 _ qz1846⟩ tc_85 rfl rfl rfl rfl (Nat.le_of_ble_eq_true rfl) dL_law_802 hf (fun r2 u2 H locs hw hP hD hO hS => ?_)
  have hH : hxI u2 := sp_fr sp_HX hw.2.1 (by decide) hH
  have hT : byI u2 := by_fr hw.2.1 rfl rfl hT
  have hM : imI u2 := sp_fr sp_IM hw.2.1 (by decide) hM
  have hE : eqv u2 := sp_fr sp_eqv hw.2.1 (by decide) hE
  have hI : inv0 u2 := ⟨hw.1, sp_fr (sp_nm 11 12) (hw.2.1) (by decide) (hI.2.1), sp_fr (sp_nm 20 21) (hw.2.1) (by decide) (hI.2.2.1), sp_fr (sp_nm 62 63) (hw.2.1) (by decide) (hI.2.2.2.1), sp_fr (sp_nm 71 72) (hw.2.1) (by decide) (hI.2.2.2.2.1), sp_fr (sp_MS) (hw.2.1) (by decide) (hI.2.2.2.2.2.1), sp_fr (sp_UI) (hw.2.1) (by decide) (hI.2.2.2.2.2.2.1), sp_fr (sp_CW) (hw.2.1) (by decide) (hI.2.2.2.2.2.2.2.1), sp_fr (sp_KI) (hw.2.1) (by decide) (hI.2.2.2.2.2.2.2.2.1), sp_fr (sp_AP) (hw.2.1) (by decide) (hI.2.2.2.2.2.2.2.2.2.1), sp_fr (sp_AU) (hw.2.1) (by decide) (hI.2.2.2.2.2.2.2.2.2.2.1), sp_fr (sp_AK) (hw.2.1) (by decide) (hI.2.2.2.2.2.2.2.2.2.2.2)⟩
  clear hw
  refine lv_pop F.1 F.2.1 dL_law_805 rfl ?_
  refine lv_goto (tgt := 1481) F.1 F.2.1 dL_law_806 (by decide) ?_
  exact W.widen cN_up.1 cN_up.2 (KK nF ad _ H locs ls ⟨hn, rfl, rfl, hN, ⟨hI, hE, hH, hT, hM⟩, hP, hD, fo, hO⟩ hS hl)
set_option maxHeartbeats 1000000 in
theorem law_c18 {p : Program} {l : Launch} {e : Env} {s : State} {m : MethodId} {below : List Frame} {meth : Method} {c : Code} {dC : Nat → ClassId} {dI : Nat → Nat → Nat} {cA : Nat → ClassId} {b L ax bm o j nF : Nat} {xs : Nat → Int32} {i : Int32} {ad : Nat → Nat} {u : ac_U} {H : Heap} {locs : List Loc} {ls : Array Slot} {Q : State → Prop} (F : ac_X p s m #[.ref b] c cL_law RL TB (dC, dI) vwCl (ac_ty cA)) (hml : c.maxLocals = 7) (hX : va_X b L xs s s.heap) (hbl : b < s.heap.size) (hL : L ≤ 3072) (hi : i.toInt = 6 * (j : Int)) (hj : 6 * j + 6 ≤ L) (hG : lw_I (dC, dI) cA ax bm o (fun q => s.heap.size ≤ q) nF ad u H) (hS : va_S (fun q => s.heap.size ≤ q) s.heap H locs) (hl : lv_has ls 7 [(4, .int i), (3, .ref o), (2, .ref bm), (1, .ref ax), (0, .ref b)])
    (KK : ∀ (nF : Nat) (ad : Nat → Nat) (u : ac_U) (H : Heap) (locs : List Loc) (ls : Array Slot), lw_I (dC, dI) cA ax bm o (fun q => s.heap.size ≤ q) nF ad u H → va_S (fun q => s.heap.size ≤ q) s.heap H locs → lv_has ls 7 [(4, .int i), (3, .ref o), (2, .ref bm), (1, .ref ax), (0, .ref b)] → W p l e room_1 s m #[.ref b] below meth c H locs (cN nF (j + 1)) (sN nF (j + 1)) Q (F0 m 1481 ls [])) : W p l e room_1 s m #[.ref b] below meth c H locs (cN nF j) (sN nF j) Q (F0 m 809 ls []) := by
  obtain ⟨hn, rfl, rfl, hN, ⟨hI, hE, hH, hT, hM⟩, hP, hD, fo, hO⟩ := hG
  have hA : ∀ q : Nat, s.heap.size ≤ q → (fun q : Nat => s.heap.size ≤ q) q := fun _ h => h
  have hbA : ¬ (fun q : Nat => s.heap.size ≤ q) b := Nat.not_le.mpr hbl
  have hf : cN nF j ≤ room_1.cells ∧ sN nF j ≤ room_1.slots := by
    have := cN_le (nF := nF) (j := j) hn (by omega)
    omega
  have hI0 := hI
  have hE0 := hE
  have hH0 := hH
  have hT0 := hT
  have hM0 := hM
  refine lv_aload_n F.1 F.2.1 dL_law_809 rfl (lv_at hl 3 rfl) ?_
  refine lv_aload_n F.1 F.2.1 dL_law_810 rfl (lv_at hl 4 rfl) ?_
  refine lv_iload F.1 F.2.1 dL_law_811 (lv_at hl 0 rfl) ?_
  refine a_ic F (1 : Int32) dL_law_813 (by decide) ?_
  refine a_iadd F dL_law_814 hi ic_1 (by omega) (fun v1 hv1 => ?_)
  refine va_sld F.1 F.2.1 hX hbl hbA hS (i_in hv1 (by omega)) dL_law_815 ?_
  refine lv_aload_n F.1 F.2.1 dL_law_816 rfl (lv_at hl 4 rfl) ?_
  refine lv_iload F.1 F.2.1 dL_law_817 (lv_at hl 0 rfl) ?_
  refine a_ic F (2 : Int32) dL_law_819 (by decide) ?_
  refine a_iadd F dL_law_820 hi ic_2 (by omega) (fun v2 hv2 => ?_)
  refine va_sld F.1 F.2.1 hX hbl hbA hS (i_in hv2 (by omega)) dL_law_821 ?_
  refine lw_Vi (o := o) (c0 := 0) F hml hl.1 hA hP hD hO hN hS (As := [.int (xs v1.toNatClampNeg), .int (xs v2.toNatClampNeg)]) (c_X11_broken_0 l dC dI ad cA nF u (xs v1.toNatClampNeg) (xs v2.toNatClampNeg) hI.1 ) ⟨callB_of 2 F.2.2.1 (tb_good qz963) rfl rfl rfl (F.2.2.1 _ qz1) (F.2.2.1 _ qz960) (by decide +kernel) (by decide), F.2.2.1 _ qz961, F.2.2.1 _ qz962⟩ tc_0 rfl rfl rfl rfl (Nat.le_of_ble_eq_true rfl) dL_law_822 hf (fun r1 u1 H locs hw hP hD hO hS => ?_)
  have hH : hxI u1 := sp_fr sp_HX hw.2.1 (by decide) hH
  have hT : byI u1 := by_fr hw.2.1 rfl rfl hT
  have hM : imI u1 := sp_fr sp_IM hw.2.1 (by decide) hM
  have hE : eqv u1 := sp_fr sp_eqv hw.2.1 (by decide) hE
  have hI : inv0 u1 := ⟨hw.1, sp_fr (sp_nm 11 12) (hw.2.1) (by decide) (hI.2.1), sp_fr (sp_nm 20 21) (hw.2.1) (by decide) (hI.2.2.1), sp_fr (sp_nm 62 63) (hw.2.1) (by decide) (hI.2.2.2.1), sp_fr (sp_nm 71 72) (hw.2.1) (by decide) (hI.2.2.2.2.1), sp_fr (sp_MS) (hw.2.1) (by decide) (hI.2.2.2.2.2.1), sp_fr (sp_UI) (hw.2.1) (by decide) (hI.2.2.2.2.2.2.1), sp_fr (sp_CW) (hw.2.1) (by decide) (hI.2.2.2.2.2.2.2.1), sp_fr (sp_KI) (hw.2.1) (by decide) (hI.2.2.2.2.2.2.2.2.1), sp_fr (sp_AP) (hw.2.1) (by decide) (hI.2.2.2.2.2.2.2.2.2.1), sp_fr (sp_AU) (hw.2.1) (by decide) (hI.2.2.2.2.2.2.2.2.2.2.1), sp_fr (sp_AK) (hw.2.1) (by decide) (hI.2.2.2.2.2.2.2.2.2.2.2)⟩
  clear hw
  refine lv_pop F.1 F.2.1 dL_law_825 rfl ?_
  refine lv_aload_n F.1 F.2.1 dL_law_826 rfl (lv_at hl 2 rfl) ?_
  refine lv_aload_n F.1 F.2.1 dL_law_827 rfl (lv_at hl 4 rfl) ?_
  refine lv_iload F.1 F.2.1 dL_law_828 (lv_at hl 0 rfl) ?_
  refine a_ic F (1 : Int32) dL_law_830 (by decide) ?_
  refine a_iadd F dL_law_831 hi ic_1 (by omega) (fun v3 hv3 => ?_)
  refine va_sld F.1 F.2.1 hX hbl hbA hS (i_in hv3 (by omega)) dL_law_832 ?_
  refine lv_aload_n F.1 F.2.1 dL_law_833 rfl (lv_at hl 4 rfl) ?_
  refine lv_iload F.1 F.2.1 dL_law_834 (lv_at hl 0 rfl) ?_
  refine a_ic F (2 : Int32) dL_law_836 (by decide) ?_
  refine a_iadd F dL_law_837 hi ic_2 (by omega) (fun v4 hv4 => ?_)
  refine va_sld F.1 F.2.1 hX hbl hbA hS (i_in hv4 (by omega)) dL_law_838 ?_
  have ev3 : v3 = v1 := Int32.toInt_inj.mp (hv3.trans hv1.symm)
  rw [ev3]
  have ev4 : v4 = v2 := Int32.toInt_inj.mp (hv4.trans hv2.symm)
  rw [ev4]
  refine lw_Vi (o := o) (c0 := 85) F hml hl.1 hA hP hD hO hN hS (As := [.int (xs v1.toNatClampNeg), .int (xs v2.toNatClampNeg)]) (c_X12_broken_85 l dC dI ad cA nF u1 (xs v1.toNatClampNeg) (xs v2.toNatClampNeg) hI.1 ) ⟨callB_of 2 F.2.2.1 (tb_good qz1851) rfl rfl rfl (F.2.2.1 _ qz17) (F.2.2.1 _ qz1848) (by decide +kernel) (by decide), F.2.2.1 _ qz1849, F.2.2.1 _ qz1850⟩ tc_85 rfl rfl rfl rfl (Nat.le_of_ble_eq_true rfl) dL_law_839 hf (fun r2 u2 H locs hw hP hD hO hS => ?_)
  have hH : hxI u2 := sp_fr sp_HX hw.2.1 (by decide) hH
  have hT : byI u2 := by_fr hw.2.1 rfl rfl hT
  have hM : imI u2 := sp_fr sp_IM hw.2.1 (by decide) hM
  have hE : eqv u2 := sp_fr sp_eqv hw.2.1 (by decide) hE
  have hI : inv0 u2 := ⟨hw.1, sp_fr (sp_nm 11 12) (hw.2.1) (by decide) (hI.2.1), sp_fr (sp_nm 20 21) (hw.2.1) (by decide) (hI.2.2.1), sp_fr (sp_nm 62 63) (hw.2.1) (by decide) (hI.2.2.2.1), sp_fr (sp_nm 71 72) (hw.2.1) (by decide) (hI.2.2.2.2.1), sp_fr (sp_MS) (hw.2.1) (by decide) (hI.2.2.2.2.2.1), sp_fr (sp_UI) (hw.2.1) (by decide) (hI.2.2.2.2.2.2.1), sp_fr (sp_CW) (hw.2.1) (by decide) (hI.2.2.2.2.2.2.2.1), sp_fr (sp_KI) (hw.2.1) (by decide) (hI.2.2.2.2.2.2.2.2.1), sp_fr (sp_AP) (hw.2.1) (by decide) (hI.2.2.2.2.2.2.2.2.2.1), sp_fr (sp_AU) (hw.2.1) (by decide) (hI.2.2.2.2.2.2.2.2.2.2.1), sp_fr (sp_AK) (hw.2.1) (by decide) (hI.2.2.2.2.2.2.2.2.2.2.2)⟩
  clear hw
  refine lv_pop F.1 F.2.1 dL_law_842 rfl ?_
  refine lv_goto (tgt := 1481) F.1 F.2.1 dL_law_843 (by decide) ?_
  exact W.widen cN_up.1 cN_up.2 (KK nF ad _ H locs ls ⟨hn, rfl, rfl, hN, ⟨hI, hE, hH, hT, hM⟩, hP, hD, fo, hO⟩ hS hl)
set_option maxHeartbeats 1000000 in
theorem law_c19 {p : Program} {l : Launch} {e : Env} {s : State} {m : MethodId} {below : List Frame} {meth : Method} {c : Code} {dC : Nat → ClassId} {dI : Nat → Nat → Nat} {cA : Nat → ClassId} {b L ax bm o j nF : Nat} {xs : Nat → Int32} {i : Int32} {ad : Nat → Nat} {u : ac_U} {H : Heap} {locs : List Loc} {ls : Array Slot} {Q : State → Prop} (F : ac_X p s m #[.ref b] c cL_law RL TB (dC, dI) vwCl (ac_ty cA)) (hml : c.maxLocals = 7) (hX : va_X b L xs s s.heap) (hbl : b < s.heap.size) (hL : L ≤ 3072) (hi : i.toInt = 6 * (j : Int)) (hj : 6 * j + 6 ≤ L) (hG : lw_I (dC, dI) cA ax bm o (fun q => s.heap.size ≤ q) nF ad u H) (hS : va_S (fun q => s.heap.size ≤ q) s.heap H locs) (hl : lv_has ls 7 [(4, .int i), (3, .ref o), (2, .ref bm), (1, .ref ax), (0, .ref b)])
    (KK : ∀ (nF : Nat) (ad : Nat → Nat) (u : ac_U) (H : Heap) (locs : List Loc) (ls : Array Slot), lw_I (dC, dI) cA ax bm o (fun q => s.heap.size ≤ q) nF ad u H → va_S (fun q => s.heap.size ≤ q) s.heap H locs → lv_has ls 7 [(4, .int i), (3, .ref o), (2, .ref bm), (1, .ref ax), (0, .ref b)] → W p l e room_1 s m #[.ref b] below meth c H locs (cN nF (j + 1)) (sN nF (j + 1)) Q (F0 m 1481 ls [])) : W p l e room_1 s m #[.ref b] below meth c H locs (cN nF j) (sN nF j) Q (F0 m 846 ls []) := by
  obtain ⟨hn, rfl, rfl, hN, ⟨hI, hE, hH, hT, hM⟩, hP, hD, fo, hO⟩ := hG
  have hA : ∀ q : Nat, s.heap.size ≤ q → (fun q : Nat => s.heap.size ≤ q) q := fun _ h => h
  have hbA : ¬ (fun q : Nat => s.heap.size ≤ q) b := Nat.not_le.mpr hbl
  have hf : cN nF j ≤ room_1.cells ∧ sN nF j ≤ room_1.slots := by
    have := cN_le (nF := nF) (j := j) hn (by omega)
    omega
  have hI0 := hI
  have hE0 := hE
  have hH0 := hH
  have hT0 := hT
  have hM0 := hM
  refine lv_aload_n F.1 F.2.1 dL_law_846 rfl (lv_at hl 3 rfl) ?_
  refine lv_aload_n F.1 F.2.1 dL_law_847 rfl (lv_at hl 4 rfl) ?_
  refine lv_iload F.1 F.2.1 dL_law_848 (lv_at hl 0 rfl) ?_
  refine a_ic F (1 : Int32) dL_law_850 (by decide) ?_
  refine a_iadd F dL_law_851 hi ic_1 (by omega) (fun v1 hv1 => ?_)
  refine va_sld F.1 F.2.1 hX hbl hbA hS (i_in hv1 (by omega)) dL_law_852 ?_
  refine lv_aload_n F.1 F.2.1 dL_law_853 rfl (lv_at hl 4 rfl) ?_
  refine lv_iload F.1 F.2.1 dL_law_854 (lv_at hl 0 rfl) ?_
  refine a_ic F (2 : Int32) dL_law_856 (by decide) ?_
  refine a_iadd F dL_law_857 hi ic_2 (by omega) (fun v2 hv2 => ?_)
  refine va_sld F.1 F.2.1 hX hbl hbA hS (i_in hv2 (by omega)) dL_law_858 ?_
  refine lw_Vi (o := o) (c0 := 0) F hml hl.1 hA hP hD hO hN hS (As := [.int (xs v1.toNatClampNeg), .int (xs v2.toNatClampNeg)]) (c_X11_breach_0 l dC dI ad cA nF u (xs v1.toNatClampNeg) (xs v2.toNatClampNeg) hI.1 ) ⟨callB_of 2 F.2.2.1 (tb_good qz968) rfl rfl rfl (F.2.2.1 _ qz1) (F.2.2.1 _ qz965) (by decide +kernel) (by decide), F.2.2.1 _ qz966, F.2.2.1 _ qz967⟩ tc_0 rfl rfl rfl rfl (Nat.le_of_ble_eq_true rfl) dL_law_859 hf (fun r1 u1 H locs hw hP hD hO hS => ?_)
  have hH : hxI u1 := sp_fr sp_HX hw.2.1 (by decide) hH
  have hT : byI u1 := by_fr hw.2.1 rfl rfl hT
  have hM : imI u1 := sp_fr sp_IM hw.2.1 (by decide) hM
  have hE : eqv u1 := sp_fr sp_eqv hw.2.1 (by decide) hE
  have hI : inv0 u1 := ⟨hw.1, sp_fr (sp_nm 11 12) (hw.2.1) (by decide) (hI.2.1), sp_fr (sp_nm 20 21) (hw.2.1) (by decide) (hI.2.2.1), sp_fr (sp_nm 62 63) (hw.2.1) (by decide) (hI.2.2.2.1), sp_fr (sp_nm 71 72) (hw.2.1) (by decide) (hI.2.2.2.2.1), sp_fr (sp_MS) (hw.2.1) (by decide) (hI.2.2.2.2.2.1), sp_fr (sp_UI) (hw.2.1) (by decide) (hI.2.2.2.2.2.2.1), sp_fr (sp_CW) (hw.2.1) (by decide) (hI.2.2.2.2.2.2.2.1), sp_fr (sp_KI) (hw.2.1) (by decide) (hI.2.2.2.2.2.2.2.2.1), sp_fr (sp_AP) (hw.2.1) (by decide) (hI.2.2.2.2.2.2.2.2.2.1), sp_fr (sp_AU) (hw.2.1) (by decide) (hI.2.2.2.2.2.2.2.2.2.2.1), sp_fr (sp_AK) (hw.2.1) (by decide) (hI.2.2.2.2.2.2.2.2.2.2.2)⟩
  clear hw
  refine lv_pop F.1 F.2.1 dL_law_862 rfl ?_
  refine lv_aload_n F.1 F.2.1 dL_law_863 rfl (lv_at hl 2 rfl) ?_
  refine lv_aload_n F.1 F.2.1 dL_law_864 rfl (lv_at hl 4 rfl) ?_
  refine lv_iload F.1 F.2.1 dL_law_865 (lv_at hl 0 rfl) ?_
  refine a_ic F (1 : Int32) dL_law_867 (by decide) ?_
  refine a_iadd F dL_law_868 hi ic_1 (by omega) (fun v3 hv3 => ?_)
  refine va_sld F.1 F.2.1 hX hbl hbA hS (i_in hv3 (by omega)) dL_law_869 ?_
  refine lv_aload_n F.1 F.2.1 dL_law_870 rfl (lv_at hl 4 rfl) ?_
  refine lv_iload F.1 F.2.1 dL_law_871 (lv_at hl 0 rfl) ?_
  refine a_ic F (2 : Int32) dL_law_873 (by decide) ?_
  refine a_iadd F dL_law_874 hi ic_2 (by omega) (fun v4 hv4 => ?_)
  refine va_sld F.1 F.2.1 hX hbl hbA hS (i_in hv4 (by omega)) dL_law_875 ?_
  have ev3 : v3 = v1 := Int32.toInt_inj.mp (hv3.trans hv1.symm)
  rw [ev3]
  have ev4 : v4 = v2 := Int32.toInt_inj.mp (hv4.trans hv2.symm)
  rw [ev4]
  refine lw_Vi (o := o) (c0 := 85) F hml hl.1 hA hP hD hO hN hS (As := [.int (xs v1.toNatClampNeg), .int (xs v2.toNatClampNeg)]) (c_X12_breach_85 l dC dI ad cA nF u1 (xs v1.toNatClampNeg) (xs v2.toNatClampNeg) hI.1 ) ⟨callB_of 2 F.2.2.1 (tb_good qz1855) rfl rfl rfl (F.2.2.1 _ qz17) (F.2.2.1 _ qz1852) (by decide +kernel) (by decide), F.2.2.1 _ qz1853, F.2.2.1 _ qz1854⟩ tc_85 rfl rfl rfl rfl (Nat.le_of_ble_eq_true rfl) dL_law_876 hf (fun r2 u2 H locs hw hP hD hO hS => ?_)
  have hH : hxI u2 := sp_fr sp_HX hw.2.1 (by decide) hH
  have hT : byI u2 := by_fr hw.2.1 rfl rfl hT
  have hM : imI u2 := sp_fr sp_IM hw.2.1 (by decide) hM
  have hE : eqv u2 := sp_fr sp_eqv hw.2.1 (by decide) hE
  have hI : inv0 u2 := ⟨hw.1, sp_fr (sp_nm 11 12) (hw.2.1) (by decide) (hI.2.1), sp_fr (sp_nm 20 21) (hw.2.1) (by decide) (hI.2.2.1), sp_fr (sp_nm 62 63) (hw.2.1) (by decide) (hI.2.2.2.1), sp_fr (sp_nm 71 72) (hw.2.1) (by decide) (hI.2.2.2.2.1), sp_fr (sp_MS) (hw.2.1) (by decide) (hI.2.2.2.2.2.1), sp_fr (sp_UI) (hw.2.1) (by decide) (hI.2.2.2.2.2.2.1), sp_fr (sp_CW) (hw.2.1) (by decide) (hI.2.2.2.2.2.2.2.1), sp_fr (sp_KI) (hw.2.1) (by decide) (hI.2.2.2.2.2.2.2.2.1), sp_fr (sp_AP) (hw.2.1) (by decide) (hI.2.2.2.2.2.2.2.2.2.1), sp_fr (sp_AU) (hw.2.1) (by decide) (hI.2.2.2.2.2.2.2.2.2.2.1), sp_fr (sp_AK) (hw.2.1) (by decide) (hI.2.2.2.2.2.2.2.2.2.2.2)⟩
  clear hw
  refine lv_pop F.1 F.2.1 dL_law_879 rfl ?_
  refine lv_goto (tgt := 1481) F.1 F.2.1 dL_law_880 (by decide) ?_
  exact W.widen cN_up.1 cN_up.2 (KK nF ad _ H locs ls ⟨hn, rfl, rfl, hN, ⟨hI, hE, hH, hT, hM⟩, hP, hD, fo, hO⟩ hS hl)
set_option maxHeartbeats 1000000 in
theorem law_c20 {p : Program} {l : Launch} {e : Env} {s : State} {m : MethodId} {below : List Frame} {meth : Method} {c : Code} {dC : Nat → ClassId} {dI : Nat → Nat → Nat} {cA : Nat → ClassId} {b L ax bm o j nF : Nat} {xs : Nat → Int32} {i : Int32} {ad : Nat → Nat} {u : ac_U} {H : Heap} {locs : List Loc} {ls : Array Slot} {Q : State → Prop} (F : ac_X p s m #[.ref b] c cL_law RL TB (dC, dI) vwCl (ac_ty cA)) (hml : c.maxLocals = 7) (hX : va_X b L xs s s.heap) (hbl : b < s.heap.size) (hL : L ≤ 3072) (hi : i.toInt = 6 * (j : Int)) (hj : 6 * j + 6 ≤ L) (hG : lw_I (dC, dI) cA ax bm o (fun q => s.heap.size ≤ q) nF ad u H) (hS : va_S (fun q => s.heap.size ≤ q) s.heap H locs) (hl : lv_has ls 7 [(4, .int i), (3, .ref o), (2, .ref bm), (1, .ref ax), (0, .ref b)])
    (KK : ∀ (nF : Nat) (ad : Nat → Nat) (u : ac_U) (H : Heap) (locs : List Loc) (ls : Array Slot), lw_I (dC, dI) cA ax bm o (fun q => s.heap.size ≤ q) nF ad u H → va_S (fun q => s.heap.size ≤ q) s.heap H locs → lv_has ls 7 [(4, .int i), (3, .ref o), (2, .ref bm), (1, .ref ax), (0, .ref b)] → W p l e room_1 s m #[.ref b] below meth c H locs (cN nF (j + 1)) (sN nF (j + 1)) Q (F0 m 1481 ls [])) : W p l e room_1 s m #[.ref b] below meth c H locs (cN nF j) (sN nF j) Q (F0 m 883 ls []) := by
  obtain ⟨hn, rfl, rfl, hN, ⟨hI, hE, hH, hT, hM⟩, hP, hD, fo, hO⟩ := hG
  have hA : ∀ q : Nat, s.heap.size ≤ q → (fun q : Nat => s.heap.size ≤ q) q := fun _ h => h
  have hbA : ¬ (fun q : Nat => s.heap.size ≤ q) b := Nat.not_le.mpr hbl
  have hf : cN nF j ≤ room_1.cells ∧ sN nF j ≤ room_1.slots := by
    have := cN_le (nF := nF) (j := j) hn (by omega)
    omega
  have hI0 := hI
  have hE0 := hE
  have hH0 := hH
  have hT0 := hT
  have hM0 := hM
  refine lv_aload_n F.1 F.2.1 dL_law_883 rfl (lv_at hl 3 rfl) ?_
  refine lv_aload_n F.1 F.2.1 dL_law_884 rfl (lv_at hl 4 rfl) ?_
  refine lv_iload F.1 F.2.1 dL_law_885 (lv_at hl 0 rfl) ?_
  refine a_ic F (1 : Int32) dL_law_887 (by decide) ?_
  refine a_iadd F dL_law_888 hi ic_1 (by omega) (fun v1 hv1 => ?_)
  refine va_sld F.1 F.2.1 hX hbl hbA hS (i_in hv1 (by omega)) dL_law_889 ?_
  refine lv_aload_n F.1 F.2.1 dL_law_890 rfl (lv_at hl 4 rfl) ?_
  refine lv_iload F.1 F.2.1 dL_law_891 (lv_at hl 0 rfl) ?_
  refine a_ic F (2 : Int32) dL_law_893 (by decide) ?_
  refine a_iadd F dL_law_894 hi ic_2 (by omega) (fun v2 hv2 => ?_)
  refine va_sld F.1 F.2.1 hX hbl hbA hS (i_in hv2 (by omega)) dL_law_895 ?_
  refine lw_Vi (o := o) (c0 := 0) F hml hl.1 hA hP hD hO hN hS (As := [.int (xs v1.toNatClampNeg), .int (xs v2.toNatClampNeg)]) (c_X11_asks_0 l dC dI ad cA nF u (xs v1.toNatClampNeg) (xs v2.toNatClampNeg) hI.1 ) ⟨callB_of 2 F.2.2.1 (tb_good qz983) rfl rfl rfl (F.2.2.1 _ qz1) (F.2.2.1 _ qz980) (by decide +kernel) (by decide), F.2.2.1 _ qz981, F.2.2.1 _ qz982⟩ tc_0 rfl rfl rfl rfl (Nat.le_of_ble_eq_true rfl) dL_law_896 hf (fun r1 u1 H locs hw hP hD hO hS => ?_)
  have hH : hxI u1 := sp_fr sp_HX hw.2.1 (by decide) hH
  have hT : byI u1 := by_fr hw.2.1 rfl rfl hT
  have hM : imI u1 := sp_fr sp_IM hw.2.1 (by decide) hM
  have hE : eqv u1 := sp_fr sp_eqv hw.2.1 (by decide) hE
  have hI : inv0 u1 := ⟨hw.1, sp_fr (sp_nm 11 12) (hw.2.1) (by decide) (hI.2.1), sp_fr (sp_nm 20 21) (hw.2.1) (by decide) (hI.2.2.1), sp_fr (sp_nm 62 63) (hw.2.1) (by decide) (hI.2.2.2.1), sp_fr (sp_nm 71 72) (hw.2.1) (by decide) (hI.2.2.2.2.1), sp_fr (sp_MS) (hw.2.1) (by decide) (hI.2.2.2.2.2.1), sp_fr (sp_UI) (hw.2.1) (by decide) (hI.2.2.2.2.2.2.1), sp_fr (sp_CW) (hw.2.1) (by decide) (hI.2.2.2.2.2.2.2.1), sp_fr (sp_KI) (hw.2.1) (by decide) (hI.2.2.2.2.2.2.2.2.1), sp_fr (sp_AP) (hw.2.1) (by decide) (hI.2.2.2.2.2.2.2.2.2.1), sp_fr (sp_AU) (hw.2.1) (by decide) (hI.2.2.2.2.2.2.2.2.2.2.1), sp_fr (sp_AK) (hw.2.1) (by decide) (hI.2.2.2.2.2.2.2.2.2.2.2)⟩
  clear hw
  refine lv_pop F.1 F.2.1 dL_law_899 rfl ?_
  refine lv_aload_n F.1 F.2.1 dL_law_900 rfl (lv_at hl 2 rfl) ?_
  refine lv_aload_n F.1 F.2.1 dL_law_901 rfl (lv_at hl 4 rfl) ?_
  refine lv_iload F.1 F.2.1 dL_law_902 (lv_at hl 0 rfl) ?_
  refine a_ic F (1 : Int32) dL_law_904 (by decide) ?_
  refine a_iadd F dL_law_905 hi ic_1 (by omega) (fun v3 hv3 => ?_)
  refine va_sld F.1 F.2.1 hX hbl hbA hS (i_in hv3 (by omega)) dL_law_906 ?_
  refine lv_aload_n F.1 F.2.1 dL_law_907 rfl (lv_at hl 4 rfl) ?_
  refine lv_iload F.1 F.2.1 dL_law_908 (lv_at hl 0 rfl) ?_
  refine a_ic F (2 : Int32) dL_law_910 (by decide) ?_
  refine a_iadd F dL_law_911 hi ic_2 (by omega) (fun v4 hv4 => ?_)
  refine va_sld F.1 F.2.1 hX hbl hbA hS (i_in hv4 (by omega)) dL_law_912 ?_
  have ev3 : v3 = v1 := Int32.toInt_inj.mp (hv3.trans hv1.symm)
  rw [ev3]
  have ev4 : v4 = v2 := Int32.toInt_inj.mp (hv4.trans hv2.symm)
  rw [ev4]
  refine lw_Vi (o := o) (c0 := 85) F hml hl.1 hA hP hD hO hN hS (As := [.int (xs v1.toNatClampNeg), .int (xs v2.toNatClampNeg)]) (c_X12_asks_85 l dC dI ad cA nF u1 (xs v1.toNatClampNeg) (xs v2.toNatClampNeg) hI.1 ) ⟨callB_of 2 F.2.2.1 (tb_good qz1859) rfl rfl rfl (F.2.2.1 _ qz17) (F.2.2.1 _ qz1856) (by decide +kernel) (by decide), F.2.2.1 _ qz1857, F.2.2.1 _ qz1858⟩ tc_85 rfl rfl rfl rfl (Nat.le_of_ble_eq_true rfl) dL_law_913 hf (fun r2 u2 H locs hw hP hD hO hS => ?_)
  have hH : hxI u2 := sp_fr sp_HX hw.2.1 (by decide) hH
  have hT : byI u2 := by_fr hw.2.1 rfl rfl hT
  have hM : imI u2 := sp_fr sp_IM hw.2.1 (by decide) hM
  have hE : eqv u2 := sp_fr sp_eqv hw.2.1 (by decide) hE
  have hI : inv0 u2 := ⟨hw.1, sp_fr (sp_nm 11 12) (hw.2.1) (by decide) (hI.2.1), sp_fr (sp_nm 20 21) (hw.2.1) (by decide) (hI.2.2.1), sp_fr (sp_nm 62 63) (hw.2.1) (by decide) (hI.2.2.2.1), sp_fr (sp_nm 71 72) (hw.2.1) (by decide) (hI.2.2.2.2.1), sp_fr (sp_MS) (hw.2.1) (by decide) (hI.2.2.2.2.2.1), sp_fr (sp_UI) (hw.2.1) (by decide) (hI.2.2.2.2.2.2.1), sp_fr (sp_CW) (hw.2.1) (by decide) (hI.2.2.2.2.2.2.2.1), sp_fr (sp_KI) (hw.2.1) (by decide) (hI.2.2.2.2.2.2.2.2.1), sp_fr (sp_AP) (hw.2.1) (by decide) (hI.2.2.2.2.2.2.2.2.2.1), sp_fr (sp_AU) (hw.2.1) (by decide) (hI.2.2.2.2.2.2.2.2.2.2.1), sp_fr (sp_AK) (hw.2.1) (by decide) (hI.2.2.2.2.2.2.2.2.2.2.2)⟩
  clear hw
  refine lv_pop F.1 F.2.1 dL_law_916 rfl ?_
  refine lv_goto (tgt := 1481) F.1 F.2.1 dL_law_917 (by decide) ?_
  exact W.widen cN_up.1 cN_up.2 (KK nF ad _ H locs ls ⟨hn, rfl, rfl, hN, ⟨hI, hE, hH, hT, hM⟩, hP, hD, fo, hO⟩ hS hl)
set_option maxHeartbeats 1000000 in
theorem law_c21 {p : Program} {l : Launch} {e : Env} {s : State} {m : MethodId} {below : List Frame} {meth : Method} {c : Code} {dC : Nat → ClassId} {dI : Nat → Nat → Nat} {cA : Nat → ClassId} {b L ax bm o j nF : Nat} {xs : Nat → Int32} {i : Int32} {ad : Nat → Nat} {u : ac_U} {H : Heap} {locs : List Loc} {ls : Array Slot} {Q : State → Prop} (F : ac_X p s m #[.ref b] c cL_law RL TB (dC, dI) vwCl (ac_ty cA)) (hml : c.maxLocals = 7) (hX : va_X b L xs s s.heap) (hbl : b < s.heap.size) (hL : L ≤ 3072) (hi : i.toInt = 6 * (j : Int)) (hj : 6 * j + 6 ≤ L) (hG : lw_I (dC, dI) cA ax bm o (fun q => s.heap.size ≤ q) nF ad u H) (hS : va_S (fun q => s.heap.size ≤ q) s.heap H locs) (hl : lv_has ls 7 [(4, .int i), (3, .ref o), (2, .ref bm), (1, .ref ax), (0, .ref b)])
    (KK : ∀ (nF : Nat) (ad : Nat → Nat) (u : ac_U) (H : Heap) (locs : List Loc) (ls : Array Slot), lw_I (dC, dI) cA ax bm o (fun q => s.heap.size ≤ q) nF ad u H → va_S (fun q => s.heap.size ≤ q) s.heap H locs → lv_has ls 7 [(4, .int i), (3, .ref o), (2, .ref bm), (1, .ref ax), (0, .ref b)] → W p l e room_1 s m #[.ref b] below meth c H locs (cN nF (j + 1)) (sN nF (j + 1)) Q (F0 m 1481 ls [])) : W p l e room_1 s m #[.ref b] below meth c H locs (cN nF j) (sN nF j) Q (F0 m 920 ls []) := by
  obtain ⟨hn, rfl, rfl, hN, ⟨hI, hE, hH, hT, hM⟩, hP, hD, fo, hO⟩ := hG
  have hA : ∀ q : Nat, s.heap.size ≤ q → (fun q : Nat => s.heap.size ≤ q) q := fun _ h => h
  have hbA : ¬ (fun q : Nat => s.heap.size ≤ q) b := Nat.not_le.mpr hbl
  have hf : cN nF j ≤ room_1.cells ∧ sN nF j ≤ room_1.slots := by
    have := cN_le (nF := nF) (j := j) hn (by omega)
    omega
  have hI0 := hI
  have hE0 := hE
  have hH0 := hH
  have hT0 := hT
  have hM0 := hM
  refine lv_aload_n F.1 F.2.1 dL_law_920 rfl (lv_at hl 3 rfl) ?_
  refine lw_Vi (o := o) (c0 := 0) F hml hl.1 hA hP hD hO hN hS (As := []) (c_X11_agree_0 l dC dI ad cA nF u  hI.1 ) ⟨callB_of 0 F.2.2.1 (tb_good qz992) rfl rfl rfl (F.2.2.1 _ qz1) (F.2.2.1 _ qz989) (by decide +kernel) (by decide), F.2.2.1 _ qz990, F.2.2.1 _ qz991⟩ tc_0 rfl rfl rfl rfl (Nat.le_of_ble_eq_true rfl) dL_law_921 hf (fun r1 u1 H locs hw hP hD hO hS => ?_)
  have hH : hxI u1 := sp_fr sp_HX hw.2.1 (by decide) hH
  have hT : byI u1 := by_fr hw.2.1 rfl rfl hT
  have hM : imI u1 := sp_fr sp_IM hw.2.1 (by decide) hM
  have hE : eqv u1 := sp_fr sp_eqv hw.2.1 (by decide) hE
  have hI : inv0 u1 := ⟨hw.1, sp_fr (sp_nm 11 12) (hw.2.1) (by decide) (hI.2.1), sp_fr (sp_nm 20 21) (hw.2.1) (by decide) (hI.2.2.1), sp_fr (sp_nm 62 63) (hw.2.1) (by decide) (hI.2.2.2.1), sp_fr (sp_nm 71 72) (hw.2.1) (by decide) (hI.2.2.2.2.1), sp_fr (sp_MS) (hw.2.1) (by decide) (hI.2.2.2.2.2.1), sp_fr (sp_UI) (hw.2.1) (by decide) (hI.2.2.2.2.2.2.1), sp_fr (sp_CW) (hw.2.1) (by decide) (hI.2.2.2.2.2.2.2.1), sp_fr (sp_KI) (hw.2.1) (by decide) (hI.2.2.2.2.2.2.2.2.1), sp_fr (sp_AP) (hw.2.1) (by decide) (hI.2.2.2.2.2.2.2.2.2.1), sp_fr (sp_AU) (hw.2.1) (by decide) (hI.2.2.2.2.2.2.2.2.2.2.1), sp_fr (sp_AK) (hw.2.1) (by decide) (hI.2.2.2.2.2.2.2.2.2.2.2)⟩
  clear hw
  refine lv_pop F.1 F.2.1 dL_law_924 rfl ?_
  refine lv_aload_n F.1 F.2.1 dL_law_925 rfl (lv_at hl 2 rfl) ?_
  refine lw_Vi (o := o) (c0 := 85) F hml hl.1 hA hP hD hO hN hS (As := []) (c_X12_agree_85 l dC dI ad cA nF u1  hI.1 ) ⟨callB_of 0 F.2.2.1 (tb_good qz1871) rfl rfl rfl (F.2.2.1 _ qz17) (F.2.2.1 _ qz1868) (by decide +kernel) (by decide), F.2.2.1 _ qz1869, F.2.2.1 _ qz1870⟩ tc_85 rfl rfl rfl rfl (Nat.le_of_ble_eq_true rfl) dL_law_926 hf (fun r2 u2 H locs hw hP hD hO hS => ?_)
  have hH : hxI u2 := sp_fr sp_HX hw.2.1 (by decide) hH
  have hT : byI u2 := by_fr hw.2.1 rfl rfl hT
  have hM : imI u2 := sp_fr sp_IM hw.2.1 (by decide) hM
  have hE : eqv u2 := sp_fr sp_eqv hw.2.1 (by decide) hE
  have hI : inv0 u2 := ⟨hw.1, sp_fr (sp_nm 11 12) (hw.2.1) (by decide) (hI.2.1), sp_fr (sp_nm 20 21) (hw.2.1) (by decide) (hI.2.2.1), sp_fr (sp_nm 62 63) (hw.2.1) (by decide) (hI.2.2.2.1), sp_fr (sp_nm 71 72) (hw.2.1) (by decide) (hI.2.2.2.2.1), sp_fr (sp_MS) (hw.2.1) (by decide) (hI.2.2.2.2.2.1), sp_fr (sp_UI) (hw.2.1) (by decide) (hI.2.2.2.2.2.2.1), sp_fr (sp_CW) (hw.2.1) (by decide) (hI.2.2.2.2.2.2.2.1), sp_fr (sp_KI) (hw.2.1) (by decide) (hI.2.2.2.2.2.2.2.2.1), sp_fr (sp_AP) (hw.2.1) (by decide) (hI.2.2.2.2.2.2.2.2.2.1), sp_fr (sp_AU) (hw.2.1) (by decide) (hI.2.2.2.2.2.2.2.2.2.2.1), sp_fr (sp_AK) (hw.2.1) (by decide) (hI.2.2.2.2.2.2.2.2.2.2.2)⟩
  clear hw
  refine lv_pop F.1 F.2.1 dL_law_929 rfl ?_
  refine lv_goto (tgt := 1481) F.1 F.2.1 dL_law_930 (by decide) ?_
  exact W.widen cN_up.1 cN_up.2 (KK nF ad _ H locs ls ⟨hn, rfl, rfl, hN, ⟨hI, hE, hH, hT, hM⟩, hP, hD, fo, hO⟩ hS hl)
set_option maxHeartbeats 1000000 in
theorem law_c23 {p : Program} {l : Launch} {e : Env} {s : State} {m : MethodId} {below : List Frame} {meth : Method} {c : Code} {dC : Nat → ClassId} {dI : Nat → Nat → Nat} {cA : Nat → ClassId} {b L ax bm o j nF : Nat} {xs : Nat → Int32} {i : Int32} {ad : Nat → Nat} {u : ac_U} {H : Heap} {locs : List Loc} {ls : Array Slot} {Q : State → Prop} (F : ac_X p s m #[.ref b] c cL_law RL TB (dC, dI) vwCl (ac_ty cA)) (hml : c.maxLocals = 7) (hX : va_X b L xs s s.heap) (hbl : b < s.heap.size) (hL : L ≤ 3072) (hi : i.toInt = 6 * (j : Int)) (hj : 6 * j + 6 ≤ L) (hG : lw_I (dC, dI) cA ax bm o (fun q => s.heap.size ≤ q) nF ad u H) (hS : va_S (fun q => s.heap.size ≤ q) s.heap H locs) (hl : lv_has ls 7 [(4, .int i), (3, .ref o), (2, .ref bm), (1, .ref ax), (0, .ref b)])
    (KK : ∀ (nF : Nat) (ad : Nat → Nat) (u : ac_U) (H : Heap) (locs : List Loc) (ls : Array Slot), lw_I (dC, dI) cA ax bm o (fun q => s.heap.size ≤ q) nF ad u H → va_S (fun q => s.heap.size ≤ q) s.heap H locs → lv_has ls 7 [(4, .int i), (3, .ref o), (2, .ref bm), (1, .ref ax), (0, .ref b)] → W p l e room_1 s m #[.ref b] below meth c H locs (cN nF (j + 1)) (sN nF (j + 1)) Q (F0 m 1481 ls [])) : W p l e room_1 s m #[.ref b] below meth c H locs (cN nF j) (sN nF j) Q (F0 m 958 ls []) := by
  obtain ⟨hn, rfl, rfl, hN, ⟨hI, hE, hH, hT, hM⟩, hP, hD, fo, hO⟩ := hG
  have hA : ∀ q : Nat, s.heap.size ≤ q → (fun q : Nat => s.heap.size ≤ q) q := fun _ h => h
  have hbA : ¬ (fun q : Nat => s.heap.size ≤ q) b := Nat.not_le.mpr hbl
  have hf : cN nF j ≤ room_1.cells ∧ sN nF j ≤ room_1.slots := by
    have := cN_le (nF := nF) (j := j) hn (by omega)
    omega
  have hI0 := hI
  have hE0 := hE
  have hH0 := hH
  have hT0 := hT
  have hM0 := hM
  refine lv_aload_n F.1 F.2.1 dL_law_958 rfl (lv_at hl 3 rfl) ?_
  refine lv_aload_n F.1 F.2.1 dL_law_959 rfl (lv_at hl 4 rfl) ?_
  refine lv_iload F.1 F.2.1 dL_law_960 (lv_at hl 0 rfl) ?_
  refine a_ic F (1 : Int32) dL_law_962 (by decide) ?_
  refine a_iadd F dL_law_963 hi ic_1 (by omega) (fun v1 hv1 => ?_)
  refine va_sld F.1 F.2.1 hX hbl hbA hS (i_in hv1 (by omega)) dL_law_964 ?_
  refine lw_Vi (o := o) (c0 := 0) F hml hl.1 hA hP hD hO hN hS (As := [.int (xs v1.toNatClampNeg)]) (c_X11_step_0 l dC dI ad cA nF u (xs v1.toNatClampNeg) hI.1 ) ⟨callB_of 1 F.2.2.1 (tb_good qz1065) rfl rfl rfl (F.2.2.1 _ qz1) (F.2.2.1 _ qz1062) (by decide +kernel) (by decide), F.2.2.1 _ qz1063, F.2.2.1 _ qz1064⟩ tc_0 rfl rfl rfl rfl (Nat.le_of_ble_eq_true rfl) dL_law_965 hf (fun r1 u1 H locs hw hP hD hO hS => ?_)
  have hH : hxI u1 := by rw [hw]; exact hH
  have hT : byI u1 := by rw [hw]; exact hT
  have hM : imI u1 := by rw [hw]; exact hM
  have hE : eqv u1 := by rw [hw]; exact hE
  have hI : inv0 u1 := by rw [hw]; exact hI
  clear hw
  refine lv_pop F.1 F.2.1 dL_law_968 rfl ?_
  refine lv_aload_n F.1 F.2.1 dL_law_969 rfl (lv_at hl 2 rfl) ?_
  refine lv_aload_n F.1 F.2.1 dL_law_970 rfl (lv_at hl 4 rfl) ?_
  refine lv_iload F.1 F.2.1 dL_law_971 (lv_at hl 0 rfl) ?_
  refine a_ic F (1 : Int32) dL_law_973 (by decide) ?_
  refine a_iadd F dL_law_974 hi ic_1 (by omega) (fun v2 hv2 => ?_)
  refine va_sld F.1 F.2.1 hX hbl hbA hS (i_in hv2 (by omega)) dL_law_975 ?_
  have ev2 : v2 = v1 := Int32.toInt_inj.mp (hv2.trans hv1.symm)
  rw [ev2]
  refine lw_Vi (o := o) (c0 := 85) F hml hl.1 hA hP hD hO hN hS (As := [.int (xs v1.toNatClampNeg)]) (c_X12_step_85 l dC dI ad cA nF u1 (xs v1.toNatClampNeg) hI.1 ) ⟨callB_of 1 F.2.2.1 (tb_good qz1913) rfl rfl rfl (F.2.2.1 _ qz17) (F.2.2.1 _ qz1910) (by decide +kernel) (by decide), F.2.2.1 _ qz1911, F.2.2.1 _ qz1912⟩ tc_85 rfl rfl rfl rfl (Nat.le_of_ble_eq_true rfl) dL_law_976 hf (fun r2 u2 H locs hw hP hD hO hS => ?_)
  have hH : hxI u2 := sp_fr sp_HX hw.2 (by decide) hH
  have hT : byI u2 := by_fr hw.2 rfl rfl hT
  have hM : imI u2 := sp_fr sp_IM hw.2 (by decide) hM
  have hE : eqv u2 := sp_fr sp_eqv hw.2 (by decide) hE
  have hI : inv0 u2 := ⟨hw.1, sp_fr (sp_nm 11 12) (hw.2) (by decide) (hI.2.1), sp_fr (sp_nm 20 21) (hw.2) (by decide) (hI.2.2.1), sp_fr (sp_nm 62 63) (hw.2) (by decide) (hI.2.2.2.1), sp_fr (sp_nm 71 72) (hw.2) (by decide) (hI.2.2.2.2.1), sp_fr (sp_MS) (hw.2) (by decide) (hI.2.2.2.2.2.1), sp_fr (sp_UI) (hw.2) (by decide) (hI.2.2.2.2.2.2.1), sp_fr (sp_CW) (hw.2) (by decide) (hI.2.2.2.2.2.2.2.1), sp_fr (sp_KI) (hw.2) (by decide) (hI.2.2.2.2.2.2.2.2.1), sp_fr (sp_AP) (hw.2) (by decide) (hI.2.2.2.2.2.2.2.2.2.1), sp_fr (sp_AU) (hw.2) (by decide) (hI.2.2.2.2.2.2.2.2.2.2.1), sp_fr (sp_AK) (hw.2) (by decide) (hI.2.2.2.2.2.2.2.2.2.2.2)⟩
  clear hw
  refine lv_pop F.1 F.2.1 dL_law_979 rfl ?_
  refine lv_goto (tgt := 1481) F.1 F.2.1 dL_law_980 (by decide) ?_
  exact W.widen cN_up.1 cN_up.2 (KK nF ad _ H locs ls ⟨hn, rfl, rfl, hN, ⟨hI, hE, hH, hT, hM⟩, hP, hD, fo, hO⟩ hS hl)
set_option maxHeartbeats 1000000 in
theorem law_c25 {p : Program} {l : Launch} {e : Env} {s : State} {m : MethodId} {below : List Frame} {meth : Method} {c : Code} {dC : Nat → ClassId} {dI : Nat → Nat → Nat} {cA : Nat → ClassId} {b L ax bm o j nF : Nat} {xs : Nat → Int32} {i : Int32} {ad : Nat → Nat} {u : ac_U} {H : Heap} {locs : List Loc} {ls : Array Slot} {Q : State → Prop} (F : ac_X p s m #[.ref b] c cL_law RL TB (dC, dI) vwCl (ac_ty cA)) (hml : c.maxLocals = 7) (hX : va_X b L xs s s.heap) (hbl : b < s.heap.size) (hL : L ≤ 3072) (hi : i.toInt = 6 * (j : Int)) (hj : 6 * j + 6 ≤ L) (hG : lw_I (dC, dI) cA ax bm o (fun q => s.heap.size ≤ q) nF ad u H) (hS : va_S (fun q => s.heap.size ≤ q) s.heap H locs) (hl : lv_has ls 7 [(4, .int i), (3, .ref o), (2, .ref bm), (1, .ref ax), (0, .ref b)])
    (KK : ∀ (nF : Nat) (ad : Nat → Nat) (u : ac_U) (H : Heap) (locs : List Loc) (ls : Array Slot), lw_I (dC, dI) cA ax bm o (fun q => s.heap.size ≤ q) nF ad u H → va_S (fun q => s.heap.size ≤ q) s.heap H locs → lv_has ls 7 [(4, .int i), (3, .ref o), (2, .ref bm), (1, .ref ax), (0, .ref b)] → W p l e room_1 s m #[.ref b] below meth c H locs (cN nF (j + 1)) (sN nF (j + 1)) Q (F0 m 1481 ls [])) : W p l e room_1 s m #[.ref b] below meth c H locs (cN nF j) (sN nF j) Q (F0 m 1008 ls []) := by
  obtain ⟨hn, rfl, rfl, hN, ⟨hI, hE, hH, hT, hM⟩, hP, hD, fo, hO⟩ := hG
  have hA : ∀ q : Nat, s.heap.size ≤ q → (fun q : Nat => s.heap.size ≤ q) q := fun _ h => h
  have hbA : ¬ (fun q : Nat => s.heap.size ≤ q) b := Nat.not_le.mpr hbl
  have hf : cN nF j ≤ room_1.cells ∧ sN nF j ≤ room_1.slots := by
    have := cN_le (nF := nF) (j := j) hn (by omega)
    omega
  have hI0 := hI
  have hE0 := hE
  have hH0 := hH
  have hT0 := hT
  have hM0 := hM
  refine lv_aload_n F.1 F.2.1 dL_law_1008 rfl (lv_at hl 3 rfl) ?_
  refine lv_aload_n F.1 F.2.1 dL_law_1009 rfl (lv_at hl 4 rfl) ?_
  refine lv_iload F.1 F.2.1 dL_law_1010 (lv_at hl 0 rfl) ?_
  refine a_ic F (1 : Int32) dL_law_1012 (by decide) ?_
  refine a_iadd F dL_law_1013 hi ic_1 (by omega) (fun v1 hv1 => ?_)
  refine va_sld F.1 F.2.1 hX hbl hbA hS (i_in hv1 (by omega)) dL_law_1014 ?_
  refine lw_Vi (o := o) (c0 := 0) F hml hl.1 hA hP hD hO hN hS (As := [.int (xs v1.toNatClampNeg)]) (c_X11_chain_0 l dC dI ad cA nF u (xs v1.toNatClampNeg) hI.1 ) ⟨callB_of 1 F.2.2.1 (tb_good qz1091) rfl rfl rfl (F.2.2.1 _ qz1) (F.2.2.1 _ qz1088) (by decide +kernel) (by decide), F.2.2.1 _ qz1089, F.2.2.1 _ qz1090⟩ tc_0 rfl rfl rfl rfl (Nat.le_of_ble_eq_true rfl) dL_law_1015 hf (fun r1 u1 H locs hw hP hD hO hS => ?_)
  have hH : hxI u1 := by rw [hw]; exact hH
  have hT : byI u1 := by rw [hw]; exact hT
  have hM : imI u1 := by rw [hw]; exact hM
  have hE : eqv u1 := by rw [hw]; exact hE
  have hI : inv0 u1 := by rw [hw]; exact hI
  clear hw
  refine lv_pop F.1 F.2.1 dL_law_1018 rfl ?_
  refine lv_aload_n F.1 F.2.1 dL_law_1019 rfl (lv_at hl 2 rfl) ?_
  refine lv_aload_n F.1 F.2.1 dL_law_1020 rfl (lv_at hl 4 rfl) ?_
  refine lv_iload F.1 F.2.1 dL_law_1021 (lv_at hl 0 rfl) ?_
  refine a_ic F (1 : Int32) dL_law_1023 (by decide) ?_
  refine a_iadd F dL_law_1024 hi ic_1 (by omega) (fun v2 hv2 => ?_)
  refine va_sld F.1 F.2.1 hX hbl hbA hS (i_in hv2 (by omega)) dL_law_1025 ?_
  have ev2 : v2 = v1 := Int32.toInt_inj.mp (hv2.trans hv1.symm)
  rw [ev2]
  refine lw_Vi (o := o) (c0 := 85) F hml hl.1 hA hP hD hO hN hS (As := [.int (xs v1.toNatClampNeg)]) (c_X12_chain_85 l dC dI ad cA nF u1 (xs v1.toNatClampNeg) hI.1 ) ⟨callB_of 1 F.2.2.1 (tb_good qz1921) rfl rfl rfl (F.2.2.1 _ qz17) (F.2.2.1 _ qz1918) (by decide +kernel) (by decide), F.2.2.1 _ qz1919, F.2.2.1 _ qz1920⟩ tc_85 rfl rfl rfl rfl (Nat.le_of_ble_eq_true rfl) dL_law_1026 hf (fun r2 u2 H locs hw hP hD hO hS => ?_)
  have hH : hxI u2 := sp_fr sp_HX hw.2 (by decide) hH
  have hT : byI u2 := by_fr hw.2 rfl rfl hT
  have hM : imI u2 := sp_fr sp_IM hw.2 (by decide) hM
  have hE : eqv u2 := sp_fr sp_eqv hw.2 (by decide) hE
  have hI : inv0 u2 := ⟨hw.1, sp_fr (sp_nm 11 12) (hw.2) (by decide) (hI.2.1), sp_fr (sp_nm 20 21) (hw.2) (by decide) (hI.2.2.1), sp_fr (sp_nm 62 63) (hw.2) (by decide) (hI.2.2.2.1), sp_fr (sp_nm 71 72) (hw.2) (by decide) (hI.2.2.2.2.1), sp_fr (sp_MS) (hw.2) (by decide) (hI.2.2.2.2.2.1), sp_fr (sp_UI) (hw.2) (by decide) (hI.2.2.2.2.2.2.1), sp_fr (sp_CW) (hw.2) (by decide) (hI.2.2.2.2.2.2.2.1), sp_fr (sp_KI) (hw.2) (by decide) (hI.2.2.2.2.2.2.2.2.1), sp_fr (sp_AP) (hw.2) (by decide) (hI.2.2.2.2.2.2.2.2.2.1), sp_fr (sp_AU) (hw.2) (by decide) (hI.2.2.2.2.2.2.2.2.2.2.1), sp_fr (sp_AK) (hw.2) (by decide) (hI.2.2.2.2.2.2.2.2.2.2.2)⟩
  clear hw
  refine lv_pop F.1 F.2.1 dL_law_1029 rfl ?_
  refine lv_goto (tgt := 1481) F.1 F.2.1 dL_law_1030 (by decide) ?_
  exact W.widen cN_up.1 cN_up.2 (KK nF ad _ H locs ls ⟨hn, rfl, rfl, hN, ⟨hI, hE, hH, hT, hM⟩, hP, hD, fo, hO⟩ hS hl)
set_option maxHeartbeats 1000000 in
theorem law_c26 {p : Program} {l : Launch} {e : Env} {s : State} {m : MethodId} {below : List Frame} {meth : Method} {c : Code} {dC : Nat → ClassId} {dI : Nat → Nat → Nat} {cA : Nat → ClassId} {b L ax bm o j nF : Nat} {xs : Nat → Int32} {i : Int32} {ad : Nat → Nat} {u : ac_U} {H : Heap} {locs : List Loc} {ls : Array Slot} {Q : State → Prop} (F : ac_X p s m #[.ref b] c cL_law RL TB (dC, dI) vwCl (ac_ty cA)) (hml : c.maxLocals = 7) (hX : va_X b L xs s s.heap) (hbl : b < s.heap.size) (hL : L ≤ 3072) (hi : i.toInt = 6 * (j : Int)) (hj : 6 * j + 6 ≤ L) (hG : lw_I (dC, dI) cA ax bm o (fun q => s.heap.size ≤ q) nF ad u H) (hS : va_S (fun q => s.heap.size ≤ q) s.heap H locs) (hl : lv_has ls 7 [(4, .int i), (3, .ref o), (2, .ref bm), (1, .ref ax), (0, .ref b)])
    (KK : ∀ (nF : Nat) (ad : Nat → Nat) (u : ac_U) (H : Heap) (locs : List Loc) (ls : Array Slot), lw_I (dC, dI) cA ax bm o (fun q => s.heap.size ≤ q) nF ad u H → va_S (fun q => s.heap.size ≤ q) s.heap H locs → lv_has ls 7 [(4, .int i), (3, .ref o), (2, .ref bm), (1, .ref ax), (0, .ref b)] → W p l e room_1 s m #[.ref b] below meth c H locs (cN nF (j + 1)) (sN nF (j + 1)) Q (F0 m 1481 ls [])) : W p l e room_1 s m #[.ref b] below meth c H locs (cN nF j) (sN nF j) Q (F0 m 1033 ls []) := by
  obtain ⟨hn, rfl, rfl, hN, ⟨hI, hE, hH, hT, hM⟩, hP, hD, fo, hO⟩ := hG
  have hA : ∀ q : Nat, s.heap.size ≤ q → (fun q : Nat => s.heap.size ≤ q) q := fun _ h => h
  have hbA : ¬ (fun q : Nat => s.heap.size ≤ q) b := Nat.not_le.mpr hbl
  have hf : cN nF j ≤ room_1.cells ∧ sN nF j ≤ room_1.slots := by
    have := cN_le (nF := nF) (j := j) hn (by omega)
    omega
  have hI0 := hI
  have hE0 := hE
  have hH0 := hH
  have hT0 := hT
  have hM0 := hM
  refine lv_aload_n F.1 F.2.1 dL_law_1033 rfl (lv_at hl 3 rfl) ?_
  refine lw_Vi (o := o) (c0 := 0) F hml hl.1 hA hP hD hO hN hS (As := []) (c_X11_rings_0 l dC dI ad cA nF u  hI.1 ) ⟨callB_of 0 F.2.2.1 (tb_good qz1103) rfl rfl rfl (F.2.2.1 _ qz1) (F.2.2.1 _ qz1100) (by decide +kernel) (by decide), F.2.2.1 _ qz1101, F.2.2.1 _ qz1102⟩ tc_0 rfl rfl rfl rfl (Nat.le_of_ble_eq_true rfl) dL_law_1034 hf (fun r1 u1 H locs hw hP hD hO hS => ?_)
  have hH : hxI u1 := by rw [hw.1]; exact hH
  have hT : byI u1 := by rw [hw.1]; exact hT
  have hM : imI u1 := by rw [hw.1]; exact hM
  have hE : eqv u1 := by rw [hw.1]; exact hE
  have hI : inv0 u1 := by rw [hw.1]; exact hI
  clear hw
  refine lv_pop F.1 F.2.1 dL_law_1037 rfl ?_
  refine lv_aload_n F.1 F.2.1 dL_law_1038 rfl (lv_at hl 2 rfl) ?_
  refine lw_Vi (o := o) (c0 := 85) F hml hl.1 hA hP hD hO hN hS (As := []) (c_X12_rings_85 l dC dI ad cA nF u1  hI.1 ) ⟨callB_of 0 F.2.2.1 (tb_good qz1929) rfl rfl rfl (F.2.2.1 _ qz17) (F.2.2.1 _ qz1926) (by decide +kernel) (by decide), F.2.2.1 _ qz1927, F.2.2.1 _ qz1928⟩ tc_85 rfl rfl rfl rfl (Nat.le_of_ble_eq_true rfl) dL_law_1039 hf (fun r2 u2 H locs hw hP hD hO hS => ?_)
  have hH : hxI u2 := sp_fr sp_HX hw.2 (by decide) hH
  have hT : byI u2 := by_fr hw.2 rfl rfl hT
  have hM : imI u2 := sp_fr sp_IM hw.2 (by decide) hM
  have hE : eqv u2 := sp_fr sp_eqv hw.2 (by decide) hE
  have hI : inv0 u2 := ⟨hw.1, sp_fr (sp_nm 11 12) (hw.2) (by decide) (hI.2.1), sp_fr (sp_nm 20 21) (hw.2) (by decide) (hI.2.2.1), sp_fr (sp_nm 62 63) (hw.2) (by decide) (hI.2.2.2.1), sp_fr (sp_nm 71 72) (hw.2) (by decide) (hI.2.2.2.2.1), sp_fr (sp_MS) (hw.2) (by decide) (hI.2.2.2.2.2.1), sp_fr (sp_UI) (hw.2) (by decide) (hI.2.2.2.2.2.2.1), sp_fr (sp_CW) (hw.2) (by decide) (hI.2.2.2.2.2.2.2.1), sp_fr (sp_KI) (hw.2) (by decide) (hI.2.2.2.2.2.2.2.2.1), sp_fr (sp_AP) (hw.2) (by decide) (hI.2.2.2.2.2.2.2.2.2.1), sp_fr (sp_AU) (hw.2) (by decide) (hI.2.2.2.2.2.2.2.2.2.2.1), sp_fr (sp_AK) (hw.2) (by decide) (hI.2.2.2.2.2.2.2.2.2.2.2)⟩
  clear hw
  refine lv_pop F.1 F.2.1 dL_law_1042 rfl ?_
  refine lv_goto (tgt := 1481) F.1 F.2.1 dL_law_1043 (by decide) ?_
  exact W.widen cN_up.1 cN_up.2 (KK nF ad _ H locs ls ⟨hn, rfl, rfl, hN, ⟨hI, hE, hH, hT, hM⟩, hP, hD, fo, hO⟩ hS hl)
set_option maxHeartbeats 1000000 in
theorem law_c27 {p : Program} {l : Launch} {e : Env} {s : State} {m : MethodId} {below : List Frame} {meth : Method} {c : Code} {dC : Nat → ClassId} {dI : Nat → Nat → Nat} {cA : Nat → ClassId} {b L ax bm o j nF : Nat} {xs : Nat → Int32} {i : Int32} {ad : Nat → Nat} {u : ac_U} {H : Heap} {locs : List Loc} {ls : Array Slot} {Q : State → Prop} (F : ac_X p s m #[.ref b] c cL_law RL TB (dC, dI) vwCl (ac_ty cA)) (hml : c.maxLocals = 7) (hX : va_X b L xs s s.heap) (hbl : b < s.heap.size) (hL : L ≤ 3072) (hi : i.toInt = 6 * (j : Int)) (hj : 6 * j + 6 ≤ L) (hG : lw_I (dC, dI) cA ax bm o (fun q => s.heap.size ≤ q) nF ad u H) (hS : va_S (fun q => s.heap.size ≤ q) s.heap H locs) (hl : lv_has ls 7 [(4, .int i), (3, .ref o), (2, .ref bm), (1, .ref ax), (0, .ref b)])
    (KK : ∀ (nF : Nat) (ad : Nat → Nat) (u : ac_U) (H : Heap) (locs : List Loc) (ls : Array Slot), lw_I (dC, dI) cA ax bm o (fun q => s.heap.size ≤ q) nF ad u H → va_S (fun q => s.heap.size ≤ q) s.heap H locs → lv_has ls 7 [(4, .int i), (3, .ref o), (2, .ref bm), (1, .ref ax), (0, .ref b)] → W p l e room_1 s m #[.ref b] below meth c H locs (cN nF (j + 1)) (sN nF (j + 1)) Q (F0 m 1481 ls [])) : W p l e room_1 s m #[.ref b] below meth c H locs (cN nF j) (sN nF j) Q (F0 m 1046 ls []) := by
  obtain ⟨hn, rfl, rfl, hN, ⟨hI, hE, hH, hT, hM⟩, hP, hD, fo, hO⟩ := hG
  have hA : ∀ q : Nat, s.heap.size ≤ q → (fun q : Nat => s.heap.size ≤ q) q := fun _ h => h
  have hbA : ¬ (fun q : Nat => s.heap.size ≤ q) b := Nat.not_le.mpr hbl
  have hf : cN nF j ≤ room_1.cells ∧ sN nF j ≤ room_1.slots := by
    have := cN_le (nF := nF) (j := j) hn (by omega)
    omega
  have hI0 := hI
  have hE0 := hE
  have hH0 := hH
  have hT0 := hT
  have hM0 := hM
  refine lv_aload_n F.1 F.2.1 dL_law_1046 rfl (lv_at hl 3 rfl) ?_
  refine lw_Vi (o := o) (c0 := 0) F hml hl.1 hA hP hD hO hN hS (As := []) (c_X11_roots_0 l dC dI ad cA nF u  hI.1 ) ⟨callB_of 0 F.2.2.1 (tb_good qz1111) rfl rfl rfl (F.2.2.1 _ qz1) (F.2.2.1 _ qz1108) (by decide +kernel) (by decide), F.2.2.1 _ qz1109, F.2.2.1 _ qz1110⟩ tc_0 rfl rfl rfl rfl (Nat.le_of_ble_eq_true rfl) dL_law_1047 hf (fun r1 u1 H locs hw hP hD hO hS => ?_)
  have hH : hxI u1 := by rw [hw.1]; exact hH
  have hT : byI u1 := by rw [hw.1]; exact hT
  have hM : imI u1 := by rw [hw.1]; exact hM
  have hE : eqv u1 := by rw [hw.1]; exact hE
  have hI : inv0 u1 := by rw [hw.1]; exact hI
  clear hw
  refine lv_pop F.1 F.2.1 dL_law_1050 rfl ?_
  refine lv_aload_n F.1 F.2.1 dL_law_1051 rfl (lv_at hl 2 rfl) ?_
  refine lw_Vi (o := o) (c0 := 85) F hml hl.1 hA hP hD hO hN hS (As := []) (c_X12_roots_85 l dC dI ad cA nF u1  hI.1 ) ⟨callB_of 0 F.2.2.1 (tb_good qz1933) rfl rfl rfl (F.2.2.1 _ qz17) (F.2.2.1 _ qz1930) (by decide +kernel) (by decide), F.2.2.1 _ qz1931, F.2.2.1 _ qz1932⟩ tc_85 rfl rfl rfl rfl (Nat.le_of_ble_eq_true rfl) dL_law_1052 hf (fun r2 u2 H locs hw hP hD hO hS => ?_)
  have hH : hxI u2 := sp_fr sp_HX hw.2.1 (by decide) hH
  have hT : byI u2 := by_fr hw.2.1 rfl rfl hT
  have hM : imI u2 := sp_fr sp_IM hw.2.1 (by decide) hM
  have hE : eqv u2 := sp_fr sp_eqv hw.2.1 (by decide) hE
  have hI : inv0 u2 := ⟨hw.1, sp_fr (sp_nm 11 12) (hw.2.1) (by decide) (hI.2.1), sp_fr (sp_nm 20 21) (hw.2.1) (by decide) (hI.2.2.1), sp_fr (sp_nm 62 63) (hw.2.1) (by decide) (hI.2.2.2.1), sp_fr (sp_nm 71 72) (hw.2.1) (by decide) (hI.2.2.2.2.1), sp_fr (sp_MS) (hw.2.1) (by decide) (hI.2.2.2.2.2.1), sp_fr (sp_UI) (hw.2.1) (by decide) (hI.2.2.2.2.2.2.1), sp_fr (sp_CW) (hw.2.1) (by decide) (hI.2.2.2.2.2.2.2.1), sp_fr (sp_KI) (hw.2.1) (by decide) (hI.2.2.2.2.2.2.2.2.1), sp_fr (sp_AP) (hw.2.1) (by decide) (hI.2.2.2.2.2.2.2.2.2.1), sp_fr (sp_AU) (hw.2.1) (by decide) (hI.2.2.2.2.2.2.2.2.2.2.1), sp_fr (sp_AK) (hw.2.1) (by decide) (hI.2.2.2.2.2.2.2.2.2.2.2)⟩
  clear hw
  refine lv_pop F.1 F.2.1 dL_law_1055 rfl ?_
  refine lv_goto (tgt := 1481) F.1 F.2.1 dL_law_1056 (by decide) ?_
  exact W.widen cN_up.1 cN_up.2 (KK nF ad _ H locs ls ⟨hn, rfl, rfl, hN, ⟨hI, hE, hH, hT, hM⟩, hP, hD, fo, hO⟩ hS hl)
set_option maxHeartbeats 1000000 in
theorem law_c28 {p : Program} {l : Launch} {e : Env} {s : State} {m : MethodId} {below : List Frame} {meth : Method} {c : Code} {dC : Nat → ClassId} {dI : Nat → Nat → Nat} {cA : Nat → ClassId} {b L ax bm o j nF : Nat} {xs : Nat → Int32} {i : Int32} {ad : Nat → Nat} {u : ac_U} {H : Heap} {locs : List Loc} {ls : Array Slot} {Q : State → Prop} (F : ac_X p s m #[.ref b] c cL_law RL TB (dC, dI) vwCl (ac_ty cA)) (hml : c.maxLocals = 7) (hX : va_X b L xs s s.heap) (hbl : b < s.heap.size) (hL : L ≤ 3072) (hi : i.toInt = 6 * (j : Int)) (hj : 6 * j + 6 ≤ L) (hG : lw_I (dC, dI) cA ax bm o (fun q => s.heap.size ≤ q) nF ad u H) (hS : va_S (fun q => s.heap.size ≤ q) s.heap H locs) (hl : lv_has ls 7 [(4, .int i), (3, .ref o), (2, .ref bm), (1, .ref ax), (0, .ref b)])
    (KK : ∀ (nF : Nat) (ad : Nat → Nat) (u : ac_U) (H : Heap) (locs : List Loc) (ls : Array Slot), lw_I (dC, dI) cA ax bm o (fun q => s.heap.size ≤ q) nF ad u H → va_S (fun q => s.heap.size ≤ q) s.heap H locs → lv_has ls 7 [(4, .int i), (3, .ref o), (2, .ref bm), (1, .ref ax), (0, .ref b)] → W p l e room_1 s m #[.ref b] below meth c H locs (cN nF (j + 1)) (sN nF (j + 1)) Q (F0 m 1481 ls [])) : W p l e room_1 s m #[.ref b] below meth c H locs (cN nF j) (sN nF j) Q (F0 m 1059 ls []) := by
  obtain ⟨hn, rfl, rfl, hN, ⟨hI, hE, hH, hT, hM⟩, hP, hD, fo, hO⟩ := hG
  have hA : ∀ q : Nat, s.heap.size ≤ q → (fun q : Nat => s.heap.size ≤ q) q := fun _ h => h
  have hbA : ¬ (fun q : Nat => s.heap.size ≤ q) b := Nat.not_le.mpr hbl
  have hf : cN nF j ≤ room_1.cells ∧ sN nF j ≤ room_1.slots := by
    have := cN_le (nF := nF) (j := j) hn (by omega)
    omega
  have hI0 := hI
  have hE0 := hE
  have hH0 := hH
  have hT0 := hT
  have hM0 := hM
  refine lv_aload_n F.1 F.2.1 dL_law_1059 rfl (lv_at hl 3 rfl) ?_
  refine lv_aload_n F.1 F.2.1 dL_law_1060 rfl (lv_at hl 4 rfl) ?_
  refine lv_iload F.1 F.2.1 dL_law_1061 (lv_at hl 0 rfl) ?_
  refine a_ic F (1 : Int32) dL_law_1063 (by decide) ?_
  refine a_iadd F dL_law_1064 hi ic_1 (by omega) (fun v1 hv1 => ?_)
  refine va_sld F.1 F.2.1 hX hbl hbA hS (i_in hv1 (by omega)) dL_law_1065 ?_
  refine lv_aload_n F.1 F.2.1 dL_law_1066 rfl (lv_at hl 4 rfl) ?_
  refine lv_iload F.1 F.2.1 dL_law_1067 (lv_at hl 0 rfl) ?_
  refine a_ic F (2 : Int32) dL_law_1069 (by decide) ?_
  refine a_iadd F dL_law_1070 hi ic_2 (by omega) (fun v2 hv2 => ?_)
  refine va_sld F.1 F.2.1 hX hbl hbA hS (i_in hv2 (by omega)) dL_law_1071 ?_
  refine lw_Vi (o := o) (c0 := 0) F hml hl.1 hA hP hD hO hN hS (As := [.int (xs v1.toNatClampNeg), .int (xs v2.toNatClampNeg)]) (c_X11_knows_0 l dC dI ad cA nF u (xs v1.toNatClampNeg) (xs v2.toNatClampNeg) hI.1 ) ⟨callB_of 2 F.2.2.1 (tb_good qz1120) rfl rfl rfl (F.2.2.1 _ qz1) (F.2.2.1 _ qz1117) (by decide +kernel) (by decide), F.2.2.1 _ qz1118, F.2.2.1 _ qz1119⟩ tc_0 rfl rfl rfl rfl (Nat.le_of_ble_eq_true rfl) dL_law_1072 hf (fun r1 u1 H locs hw hP hD hO hS => ?_)
  have hH : hxI u1 := by rw [hw.1]; exact hH
  have hT : byI u1 := by rw [hw.1]; exact hT
  have hM : imI u1 := by rw [hw.1]; exact hM
  have hE : eqv u1 := by rw [hw.1]; exact hE
  have hI : inv0 u1 := by rw [hw.1]; exact hI
  clear hw
  refine lv_pop F.1 F.2.1 dL_law_1075 rfl ?_
  refine lv_aload_n F.1 F.2.1 dL_law_1076 rfl (lv_at hl 2 rfl) ?_
  refine lv_aload_n F.1 F.2.1 dL_law_1077 rfl (lv_at hl 4 rfl) ?_
  refine lv_iload F.1 F.2.1 dL_law_1078 (lv_at hl 0 rfl) ?_
  refine a_ic F (1 : Int32) dL_law_1080 (by decide) ?_
  refine a_iadd F dL_law_1081 hi ic_1 (by omega) (fun v3 hv3 => ?_)
  refine va_sld F.1 F.2.1 hX hbl hbA hS (i_in hv3 (by omega)) dL_law_1082 ?_
  refine lv_aload_n F.1 F.2.1 dL_law_1083 rfl (lv_at hl 4 rfl) ?_
  refine lv_iload F.1 F.2.1 dL_law_1084 (lv_at hl 0 rfl) ?_
  refine a_ic F (2 : Int32) dL_law_1086 (by decide) ?_
  refine a_iadd F dL_law_1087 hi ic_2 (by omega) (fun v4 hv4 => ?_)
  refine va_sld F.1 F.2.1 hX hbl hbA hS (i_in hv4 (by omega)) dL_law_1088 ?_
  have ev3 : v3 = v1 := Int32.toInt_inj.mp (hv3.trans hv1.symm)
  rw [ev3]
  have ev4 : v4 = v2 := Int32.toInt_inj.mp (hv4.trans hv2.symm)
  rw [ev4]
  refine lw_Vi (o := o) (c0 := 85) F hml hl.1 hA hP hD hO hN hS (As := [.int (xs v1.toNatClampNeg), .int (xs v2.toNatClampNeg)]) (c_X12_knows_85 l dC dI ad cA nF u1 (xs v1.toNatClampNeg) (xs v2.toNatClampNeg) hI.1 ) ⟨callB_of 2 F.2.2.1 (tb_good qz1937) rfl rfl rfl (F.2.2.1 _ qz17) (F.2.2.1 _ qz1934) (by decide +kernel) (by decide), F.2.2.1 _ qz1935, F.2.2.1 _ qz1936⟩ tc_85 rfl rfl rfl rfl (Nat.le_of_ble_eq_true rfl) dL_law_1089 hf (fun r2 u2 H locs hw hP hD hO hS => ?_)
  have hH : hxI u2 := sp_fr sp_HX hw.2 (by decide) hH
  have hT : byI u2 := by_fr hw.2 rfl rfl hT
  have hM : imI u2 := sp_fr sp_IM hw.2 (by decide) hM
  have hE : eqv u2 := sp_fr sp_eqv hw.2 (by decide) hE
  have hI : inv0 u2 := ⟨hw.1, sp_fr (sp_nm 11 12) (hw.2) (by decide) (hI.2.1), sp_fr (sp_nm 20 21) (hw.2) (by decide) (hI.2.2.1), sp_fr (sp_nm 62 63) (hw.2) (by decide) (hI.2.2.2.1), sp_fr (sp_nm 71 72) (hw.2) (by decide) (hI.2.2.2.2.1), sp_fr (sp_MS) (hw.2) (by decide) (hI.2.2.2.2.2.1), sp_fr (sp_UI) (hw.2) (by decide) (hI.2.2.2.2.2.2.1), sp_fr (sp_CW) (hw.2) (by decide) (hI.2.2.2.2.2.2.2.1), sp_fr (sp_KI) (hw.2) (by decide) (hI.2.2.2.2.2.2.2.2.1), sp_fr (sp_AP) (hw.2) (by decide) (hI.2.2.2.2.2.2.2.2.2.1), sp_fr (sp_AU) (hw.2) (by decide) (hI.2.2.2.2.2.2.2.2.2.2.1), sp_fr (sp_AK) (hw.2) (by decide) (hI.2.2.2.2.2.2.2.2.2.2.2)⟩
  clear hw
  refine lv_pop F.1 F.2.1 dL_law_1092 rfl ?_
  refine lv_goto (tgt := 1481) F.1 F.2.1 dL_law_1093 (by decide) ?_
  exact W.widen cN_up.1 cN_up.2 (KK nF ad _ H locs ls ⟨hn, rfl, rfl, hN, ⟨hI, hE, hH, hT, hM⟩, hP, hD, fo, hO⟩ hS hl)
set_option maxHeartbeats 1000000 in
theorem law_c29 {p : Program} {l : Launch} {e : Env} {s : State} {m : MethodId} {below : List Frame} {meth : Method} {c : Code} {dC : Nat → ClassId} {dI : Nat → Nat → Nat} {cA : Nat → ClassId} {b L ax bm o j nF : Nat} {xs : Nat → Int32} {i : Int32} {ad : Nat → Nat} {u : ac_U} {H : Heap} {locs : List Loc} {ls : Array Slot} {Q : State → Prop} (F : ac_X p s m #[.ref b] c cL_law RL TB (dC, dI) vwCl (ac_ty cA)) (hml : c.maxLocals = 7) (hX : va_X b L xs s s.heap) (hbl : b < s.heap.size) (hL : L ≤ 3072) (hi : i.toInt = 6 * (j : Int)) (hj : 6 * j + 6 ≤ L) (hG : lw_I (dC, dI) cA ax bm o (fun q => s.heap.size ≤ q) nF ad u H) (hS : va_S (fun q => s.heap.size ≤ q) s.heap H locs) (hl : lv_has ls 7 [(4, .int i), (3, .ref o), (2, .ref bm), (1, .ref ax), (0, .ref b)])
    (KK : ∀ (nF : Nat) (ad : Nat → Nat) (u : ac_U) (H : Heap) (locs : List Loc) (ls : Array Slot), lw_I (dC, dI) cA ax bm o (fun q => s.heap.size ≤ q) nF ad u H → va_S (fun q => s.heap.size ≤ q) s.heap H locs → lv_has ls 7 [(4, .int i), (3, .ref o), (2, .ref bm), (1, .ref ax), (0, .ref b)] → W p l e room_1 s m #[.ref b] below meth c H locs (cN nF (j + 1)) (sN nF (j + 1)) Q (F0 m 1481 ls [])) : W p l e room_1 s m #[.ref b] below meth c H locs (cN nF j) (sN nF j) Q (F0 m 1096 ls []) := by
  obtain ⟨hn, rfl, rfl, hN, ⟨hI, hE, hH, hT, hM⟩, hP, hD, fo, hO⟩ := hG
  have hA : ∀ q : Nat, s.heap.size ≤ q → (fun q : Nat => s.heap.size ≤ q) q := fun _ h => h
  have hbA : ¬ (fun q : Nat => s.heap.size ≤ q) b := Nat.not_le.mpr hbl
  have hf : cN nF j ≤ room_1.cells ∧ sN nF j ≤ room_1.slots := by
    have := cN_le (nF := nF) (j := j) hn (by omega)
    omega
  have hI0 := hI
  have hE0 := hE
  have hH0 := hH
  have hT0 := hT
  have hM0 := hM
  refine lv_aload_n F.1 F.2.1 dL_law_1096 rfl (lv_at hl 3 rfl) ?_
  refine lv_aload_n F.1 F.2.1 dL_law_1097 rfl (lv_at hl 4 rfl) ?_
  refine lv_iload F.1 F.2.1 dL_law_1098 (lv_at hl 0 rfl) ?_
  refine a_ic F (1 : Int32) dL_law_1100 (by decide) ?_
  refine a_iadd F dL_law_1101 hi ic_1 (by omega) (fun v1 hv1 => ?_)
  refine va_sld F.1 F.2.1 hX hbl hbA hS (i_in hv1 (by omega)) dL_law_1102 ?_
  refine lw_Vi (o := o) (c0 := 0) F hml hl.1 hA hP hD hO hN hS (As := [.int (xs v1.toNatClampNeg)]) (c_X11_heard_0 l dC dI ad cA nF u (xs v1.toNatClampNeg) hI.1 ) ⟨callB_of 1 F.2.2.1 (tb_good qz1129) rfl rfl rfl (F.2.2.1 _ qz1) (F.2.2.1 _ qz1126) (by decide +kernel) (by decide), F.2.2.1 _ qz1127, F.2.2.1 _ qz1128⟩ tc_0 rfl rfl rfl rfl (Nat.le_of_ble_eq_true rfl) dL_law_1103 hf (fun r1 u1 H locs hw hP hD hO hS => ?_)
  have hH : hxI u1 := by rw [hw.1]; exact hH
  have hT : byI u1 := by rw [hw.1]; exact hT
  have hM : imI u1 := by rw [hw.1]; exact hM
  have hE : eqv u1 := by rw [hw.1]; exact hE
  have hI : inv0 u1 := by rw [hw.1]; exact hI
  clear hw
  refine lv_pop F.1 F.2.1 dL_law_1106 rfl ?_
  refine lv_aload_n F.1 F.2.1 dL_law_1107 rfl (lv_at hl 2 rfl) ?_
  refine lv_aload_n F.1 F.2.1 dL_law_1108 rfl (lv_at hl 4 rfl) ?_
  refine lv_iload F.1 F.2.1 dL_law_1109 (lv_at hl 0 rfl) ?_
  refine a_ic F (1 : Int32) dL_law_1111 (by decide) ?_
  refine a_iadd F dL_law_1112 hi ic_1 (by omega) (fun v2 hv2 => ?_)
  refine va_sld F.1 F.2.1 hX hbl hbA hS (i_in hv2 (by omega)) dL_law_1113 ?_
  have ev2 : v2 = v1 := Int32.toInt_inj.mp (hv2.trans hv1.symm)
  rw [ev2]
  refine lw_Vi (o := o) (c0 := 85) F hml hl.1 hA hP hD hO hN hS (As := [.int (xs v1.toNatClampNeg)]) (c_X12_heard_85 l dC dI ad cA nF u1 (xs v1.toNatClampNeg) hI.1 ) ⟨callB_of 1 F.2.2.1 (tb_good qz1945) rfl rfl rfl (F.2.2.1 _ qz17) (F.2.2.1 _ qz1942) (by decide +kernel) (by decide), F.2.2.1 _ qz1943, F.2.2.1 _ qz1944⟩ tc_85 rfl rfl rfl rfl (Nat.le_of_ble_eq_true rfl) dL_law_1114 hf (fun r2 u2 H locs hw hP hD hO hS => ?_)
  have hH : hxI u2 := sp_fr sp_HX hw.2.1 (by decide) hH
  have hT : byI u2 := by_fr hw.2.1 rfl rfl hT
  have hM : imI u2 := sp_fr sp_IM hw.2.1 (by decide) hM
  have hE : eqv u2 := sp_fr sp_eqv hw.2.1 (by decide) hE
  have hI : inv0 u2 := ⟨hw.1, sp_fr (sp_nm 11 12) (hw.2.1) (by decide) (hI.2.1), sp_fr (sp_nm 20 21) (hw.2.1) (by decide) (hI.2.2.1), sp_fr (sp_nm 62 63) (hw.2.1) (by decide) (hI.2.2.2.1), sp_fr (sp_nm 71 72) (hw.2.1) (by decide) (hI.2.2.2.2.1), sp_fr (sp_MS) (hw.2.1) (by decide) (hI.2.2.2.2.2.1), sp_fr (sp_UI) (hw.2.1) (by decide) (hI.2.2.2.2.2.2.1), sp_fr (sp_CW) (hw.2.1) (by decide) (hI.2.2.2.2.2.2.2.1), sp_fr (sp_KI) (hw.2.1) (by decide) (hI.2.2.2.2.2.2.2.2.1), sp_fr (sp_AP) (hw.2.1) (by decide) (hI.2.2.2.2.2.2.2.2.2.1), sp_fr (sp_AU) (hw.2.1) (by decide) (hI.2.2.2.2.2.2.2.2.2.2.1), sp_fr (sp_AK) (hw.2.1) (by decide) (hI.2.2.2.2.2.2.2.2.2.2.2)⟩
  clear hw
  refine lv_pop F.1 F.2.1 dL_law_1117 rfl ?_
  refine lv_goto (tgt := 1481) F.1 F.2.1 dL_law_1118 (by decide) ?_
  exact W.widen cN_up.1 cN_up.2 (KK nF ad _ H locs ls ⟨hn, rfl, rfl, hN, ⟨hI, hE, hH, hT, hM⟩, hP, hD, fo, hO⟩ hS hl)
set_option maxHeartbeats 1000000 in
theorem law_c30 {p : Program} {l : Launch} {e : Env} {s : State} {m : MethodId} {below : List Frame} {meth : Method} {c : Code} {dC : Nat → ClassId} {dI : Nat → Nat → Nat} {cA : Nat → ClassId} {b L ax bm o j nF : Nat} {xs : Nat → Int32} {i : Int32} {ad : Nat → Nat} {u : ac_U} {H : Heap} {locs : List Loc} {ls : Array Slot} {Q : State → Prop} (F : ac_X p s m #[.ref b] c cL_law RL TB (dC, dI) vwCl (ac_ty cA)) (hml : c.maxLocals = 7) (hX : va_X b L xs s s.heap) (hbl : b < s.heap.size) (hL : L ≤ 3072) (hi : i.toInt = 6 * (j : Int)) (hj : 6 * j + 6 ≤ L) (hG : lw_I (dC, dI) cA ax bm o (fun q => s.heap.size ≤ q) nF ad u H) (hS : va_S (fun q => s.heap.size ≤ q) s.heap H locs) (hl : lv_has ls 7 [(4, .int i), (3, .ref o), (2, .ref bm), (1, .ref ax), (0, .ref b)])
    (KK : ∀ (nF : Nat) (ad : Nat → Nat) (u : ac_U) (H : Heap) (locs : List Loc) (ls : Array Slot), lw_I (dC, dI) cA ax bm o (fun q => s.heap.size ≤ q) nF ad u H → va_S (fun q => s.heap.size ≤ q) s.heap H locs → lv_has ls 7 [(4, .int i), (3, .ref o), (2, .ref bm), (1, .ref ax), (0, .ref b)] → W p l e room_1 s m #[.ref b] below meth c H locs (cN nF (j + 1)) (sN nF (j + 1)) Q (F0 m 1481 ls [])) : W p l e room_1 s m #[.ref b] below meth c H locs (cN nF j) (sN nF j) Q (F0 m 1121 ls []) := by
  obtain ⟨hn, rfl, rfl, hN, ⟨hI, hE, hH, hT, hM⟩, hP, hD, fo, hO⟩ := hG
  have hA : ∀ q : Nat, s.heap.size ≤ q → (fun q : Nat => s.heap.size ≤ q) q := fun _ h => h
  have hbA : ¬ (fun q : Nat => s.heap.size ≤ q) b := Nat.not_le.mpr hbl
  have hf : cN nF j ≤ room_1.cells ∧ sN nF j ≤ room_1.slots := by
    have := cN_le (nF := nF) (j := j) hn (by omega)
    omega
  have hI0 := hI
  have hE0 := hE
  have hH0 := hH
  have hT0 := hT
  have hM0 := hM
  refine lv_aload_n F.1 F.2.1 dL_law_1121 rfl (lv_at hl 3 rfl) ?_
  refine lw_Vi (o := o) (c0 := 0) F hml hl.1 hA hP hD hO hN hS (As := []) (x_X11_dry_0 l dC dI ad cA nF u  hI.1 ) ⟨callB_of 0 F.2.2.1 (tb_good qz1138) rfl rfl rfl (F.2.2.1 _ qz1) (F.2.2.1 _ qz1135) (by decide +kernel) (by decide), F.2.2.1 _ qz1136, F.2.2.1 _ qz1137⟩ tc_0 rfl rfl rfl rfl (Nat.le_of_ble_eq_true rfl) dL_law_1122 hf (fun r1 u1 H locs hw hP hD hO hS => ?_)
  have x1_1 : ((0 : Int) ≤ r1.toInt ∧ r1.toInt ≤ 255) := hw.2.1
  have hu1 : u1 = u := hw.1
  have hx1 : f_X11_dry_0 u = r1 := hw.2.2
  have hH : hxI u1 := by rw [hw.1]; exact hH
  have hT : byI u1 := by rw [hw.1]; exact hT
  have hM : imI u1 := by rw [hw.1]; exact hM
  have hE : eqv u1 := by rw [hw.1]; exact hE
  have hI : inv0 u1 := by rw [hw.1]; exact hI
  clear hw
  refine lv_aload_n F.1 F.2.1 dL_law_1125 rfl (lv_at hl 2 rfl) ?_
  refine lw_Vi (o := o) (c0 := 85) F hml hl.1 hA hP hD hO hN hS (As := []) (x_X12_dry_85 l dC dI ad cA nF u1  hI.1 ) ⟨callB_of 0 F.2.2.1 (tb_good qz1949) rfl rfl rfl (F.2.2.1 _ qz17) (F.2.2.1 _ qz1946) (by decide +kernel) (by decide), F.2.2.1 _ qz1947, F.2.2.1 _ qz1948⟩ tc_85 rfl rfl rfl rfl (Nat.le_of_ble_eq_true rfl) dL_law_1126 hf (fun r2 u2 H locs hw hP hD hO hS => ?_)
  have x2_1 : ((0 : Int) ≤ r2.toInt ∧ r2.toInt ≤ 255) := hw.2.2.1
  have k2_1_2 : (u2.1 1 2).toInt = (u1.1 1 2).toInt := congrArg Int32.toInt (hw.2.1 1 2 rfl)
  have k2_85_2 : (u2.1 85 2).toInt = (u1.1 85 2).toInt := congrArg Int32.toInt (hw.2.1 85 2 rfl)
  have k2_53_4 : (u2.1 53 4).toInt = (u1.1 53 4).toInt := congrArg Int32.toInt (hw.2.1 53 4 rfl)
  have k2_54_4 : (u2.1 54 4).toInt = (u1.1 54 4).toInt := congrArg Int32.toInt (hw.2.1 54 4 rfl)
  have k2_104_0 : (u2.1 104 0).toInt = (u1.1 104 0).toInt := congrArg Int32.toInt (hw.2.1 104 0 rfl)
  have k2_104_1 : (u2.1 104 1).toInt = (u1.1 104 1).toInt := congrArg Int32.toInt (hw.2.1 104 1 rfl)
  have hx2 : f_X12_dry_85 u1 = (u2, r2) := hw.2.2.2
  have hH : hxI u2 := sp_fr sp_HX hw.2.1 (by decide) hH
  have hT : byI u2 := by_fr hw.2.1 rfl rfl hT
  have hM : imI u2 := sp_fr sp_IM hw.2.1 (by decide) hM
  have hE : eqv u2 := sp_fr sp_eqv hw.2.1 (by decide) hE
  have hI : inv0 u2 := ⟨hw.1, sp_fr (sp_nm 11 12) (hw.2.1) (by decide) (hI.2.1), sp_fr (sp_nm 20 21) (hw.2.1) (by decide) (hI.2.2.1), sp_fr (sp_nm 62 63) (hw.2.1) (by decide) (hI.2.2.2.1), sp_fr (sp_nm 71 72) (hw.2.1) (by decide) (hI.2.2.2.2.1), sp_fr (sp_MS) (hw.2.1) (by decide) (hI.2.2.2.2.2.1), sp_fr (sp_UI) (hw.2.1) (by decide) (hI.2.2.2.2.2.2.1), sp_fr (sp_CW) (hw.2.1) (by decide) (hI.2.2.2.2.2.2.2.1), sp_fr (sp_KI) (hw.2.1) (by decide) (hI.2.2.2.2.2.2.2.2.1), sp_fr (sp_AP) (hw.2.1) (by decide) (hI.2.2.2.2.2.2.2.2.2.1), sp_fr (sp_AU) (hw.2.1) (by decide) (hI.2.2.2.2.2.2.2.2.2.2.1), sp_fr (sp_AK) (hw.2.1) (by decide) (hI.2.2.2.2.2.2.2.2.2.2.2)⟩
  clear hw
  refine b_eq F 1481 dL_law_1129 (by decide) rfl rfl (fun _ => ?_) (fun h => ?_)
  · exact W.widen cN_up.1 cN_up.2 (KK nF ad _ H locs ls ⟨hn, rfl, rfl, hN, ⟨hI, hE, hH, hT, hM⟩, hP, hD, fo, hO⟩ hS hl)
  · exfalso
    have hq := congrArg Int32.toInt (cm_dry hu1 hx1 hx2 hI0.1 hE0.1 hH0)
    omega
set_option maxHeartbeats 1000000 in
theorem law_c31 {p : Program} {l : Launch} {e : Env} {s : State} {m : MethodId} {below : List Frame} {meth : Method} {c : Code} {dC : Nat → ClassId} {dI : Nat → Nat → Nat} {cA : Nat → ClassId} {b L ax bm o j nF : Nat} {xs : Nat → Int32} {i : Int32} {ad : Nat → Nat} {u : ac_U} {H : Heap} {locs : List Loc} {ls : Array Slot} {Q : State → Prop} (F : ac_X p s m #[.ref b] c cL_law RL TB (dC, dI) vwCl (ac_ty cA)) (hml : c.maxLocals = 7) (hX : va_X b L xs s s.heap) (hbl : b < s.heap.size) (hL : L ≤ 3072) (hi : i.toInt = 6 * (j : Int)) (hj : 6 * j + 6 ≤ L) (hG : lw_I (dC, dI) cA ax bm o (fun q => s.heap.size ≤ q) nF ad u H) (hS : va_S (fun q => s.heap.size ≤ q) s.heap H locs) (hl : lv_has ls 7 [(4, .int i), (3, .ref o), (2, .ref bm), (1, .ref ax), (0, .ref b)])
    (KK : ∀ (nF : Nat) (ad : Nat → Nat) (u : ac_U) (H : Heap) (locs : List Loc) (ls : Array Slot), lw_I (dC, dI) cA ax bm o (fun q => s.heap.size ≤ q) nF ad u H → va_S (fun q => s.heap.size ≤ q) s.heap H locs → lv_has ls 7 [(4, .int i), (3, .ref o), (2, .ref bm), (1, .ref ax), (0, .ref b)] → W p l e room_1 s m #[.ref b] below meth c H locs (cN nF (j + 1)) (sN nF (j + 1)) Q (F0 m 1481 ls [])) : W p l e room_1 s m #[.ref b] below meth c H locs (cN nF j) (sN nF j) Q (F0 m 1134 ls []) := by
  obtain ⟨hn, rfl, rfl, hN, ⟨hI, hE, hH, hT, hM⟩, hP, hD, fo, hO⟩ := hG
  have hA : ∀ q : Nat, s.heap.size ≤ q → (fun q : Nat => s.heap.size ≤ q) q := fun _ h => h
  have hbA : ¬ (fun q : Nat => s.heap.size ≤ q) b := Nat.not_le.mpr hbl
  have hf : cN nF j ≤ room_1.cells ∧ sN nF j ≤ room_1.slots := by
    have := cN_le (nF := nF) (j := j) hn (by omega)
    omega
  have hI0 := hI
  have hE0 := hE
  have hH0 := hH
  have hT0 := hT
  have hM0 := hM
  refine lv_aload_n F.1 F.2.1 dL_law_1134 rfl (lv_at hl 3 rfl) ?_
  refine lv_aload_n F.1 F.2.1 dL_law_1135 rfl (lv_at hl 4 rfl) ?_
  refine lv_iload F.1 F.2.1 dL_law_1136 (lv_at hl 0 rfl) ?_
  refine a_ic F (1 : Int32) dL_law_1138 (by decide) ?_
  refine a_iadd F dL_law_1139 hi ic_1 (by omega) (fun v1 hv1 => ?_)
  refine va_sld F.1 F.2.1 hX hbl hbA hS (i_in hv1 (by omega)) dL_law_1140 ?_
  refine lv_aload_n F.1 F.2.1 dL_law_1141 rfl (lv_at hl 4 rfl) ?_
  refine lv_iload F.1 F.2.1 dL_law_1142 (lv_at hl 0 rfl) ?_
  refine a_ic F (2 : Int32) dL_law_1144 (by decide) ?_
  refine a_iadd F dL_law_1145 hi ic_2 (by omega) (fun v2 hv2 => ?_)
  refine va_sld F.1 F.2.1 hX hbl hbA hS (i_in hv2 (by omega)) dL_law_1146 ?_
  refine lv_aload_n F.1 F.2.1 dL_law_1147 rfl (lv_at hl 4 rfl) ?_
  refine lv_iload F.1 F.2.1 dL_law_1148 (lv_at hl 0 rfl) ?_
  refine a_ic F (3 : Int32) dL_law_1150 (by decide) ?_
  refine a_iadd F dL_law_1151 hi ic_3 (by omega) (fun v3 hv3 => ?_)
  refine va_sld F.1 F.2.1 hX hbl hbA hS (i_in hv3 (by omega)) dL_law_1152 ?_
  refine lw_Vi (o := o) (c0 := 0) F hml hl.1 hA hP hD hO hN hS (As := [.int (xs v1.toNatClampNeg), .int (xs v2.toNatClampNeg), .int (xs v3.toNatClampNeg)]) (c_X11_windows_0 l dC dI ad cA nF u (xs v1.toNatClampNeg) (xs v2.toNatClampNeg) (xs v3.toNatClampNeg) hI.1 ) ⟨callB_of 3 F.2.2.1 (tb_good qz1147) rfl rfl rfl (F.2.2.1 _ qz1) (F.2.2.1 _ qz1144) (by decide +kernel) (by decide), F.2.2.1 _ qz1145, F.2.2.1 _ qz1146⟩ tc_0 rfl rfl rfl rfl (Nat.le_of_ble_eq_true rfl) dL_law_1153 hf (fun r1 u1 H locs hw hP hD hO hS => ?_)
  have hH : hxI u1 := sp_fr sp_HX hw.2 (by decide) hH
  have hT : byI u1 := by_fr hw.2 rfl rfl hT
  have hM : imI u1 := sp_fr sp_IM hw.2 (by decide) hM
  have hE : eqv u1 := sp_fr sp_eqv hw.2 (by decide) hE
  have hI : inv0 u1 := ⟨hw.1, sp_fr (sp_nm 11 12) (hw.2) (by decide) (hI.2.1), sp_fr (sp_nm 20 21) (hw.2) (by decide) (hI.2.2.1), sp_fr (sp_nm 62 63) (hw.2) (by decide) (hI.2.2.2.1), sp_fr (sp_nm 71 72) (hw.2) (by decide) (hI.2.2.2.2.1), sp_fr (sp_MS) (hw.2) (by decide) (hI.2.2.2.2.2.1), sp_fr (sp_UI) (hw.2) (by decide) (hI.2.2.2.2.2.2.1), sp_fr (sp_CW) (hw.2) (by decide) (hI.2.2.2.2.2.2.2.1), sp_fr (sp_KI) (hw.2) (by decide) (hI.2.2.2.2.2.2.2.2.1), sp_fr (sp_AP) (hw.2) (by decide) (hI.2.2.2.2.2.2.2.2.2.1), sp_fr (sp_AU) (hw.2) (by decide) (hI.2.2.2.2.2.2.2.2.2.2.1), sp_fr (sp_AK) (hw.2) (by decide) (hI.2.2.2.2.2.2.2.2.2.2.2)⟩
  clear hw
  refine lv_pop F.1 F.2.1 dL_law_1156 rfl ?_
  refine lv_aload_n F.1 F.2.1 dL_law_1157 rfl (lv_at hl 2 rfl) ?_
  refine lv_aload_n F.1 F.2.1 dL_law_1158 rfl (lv_at hl 4 rfl) ?_
  refine lv_iload F.1 F.2.1 dL_law_1159 (lv_at hl 0 rfl) ?_
  refine a_ic F (1 : Int32) dL_law_1161 (by decide) ?_
  refine a_iadd F dL_law_1162 hi ic_1 (by omega) (fun v4 hv4 => ?_)
  refine va_sld F.1 F.2.1 hX hbl hbA hS (i_in hv4 (by omega)) dL_law_1163 ?_
  refine lv_aload_n F.1 F.2.1 dL_law_1164 rfl (lv_at hl 4 rfl) ?_
  refine lv_iload F.1 F.2.1 dL_law_1165 (lv_at hl 0 rfl) ?_
  refine a_ic F (2 : Int32) dL_law_1167 (by decide) ?_
  refine a_iadd F dL_law_1168 hi ic_2 (by omega) (fun v5 hv5 => ?_)
  refine va_sld F.1 F.2.1 hX hbl hbA hS (i_in hv5 (by omega)) dL_law_1169 ?_
  refine lv_aload_n F.1 F.2.1 dL_law_1170 rfl (lv_at hl 4 rfl) ?_
  refine lv_iload F.1 F.2.1 dL_law_1171 (lv_at hl 0 rfl) ?_
  refine a_ic F (3 : Int32) dL_law_1173 (by decide) ?_
  refine a_iadd F dL_law_1174 hi ic_3 (by omega) (fun v6 hv6 => ?_)
  refine va_sld F.1 F.2.1 hX hbl hbA hS (i_in hv6 (by omega)) dL_law_1175 ?_
  have ev4 : v4 = v1 := Int32.toInt_inj.mp (hv4.trans hv1.symm)
  rw [ev4]
  have ev5 : v5 = v2 := Int32.toInt_inj.mp (hv5.trans hv2.symm)
  rw [ev5]
  have ev6 : v6 = v3 := Int32.toInt_inj.mp (hv6.trans hv3.symm)
  rw [ev6]
  refine lw_Vi (o := o) (c0 := 85) F hml hl.1 hA hP hD hO hN hS (As := [.int (xs v1.toNatClampNeg), .int (xs v2.toNatClampNeg), .int (xs v3.toNatClampNeg)]) (c_X12_windows_85 l dC dI ad cA nF u1 (xs v1.toNatClampNeg) (xs v2.toNatClampNeg) (xs v3.toNatClampNeg) hI.1 ) ⟨callB_of 3 F.2.2.1 (tb_good qz1953) rfl rfl rfl (F.2.2.1 _ qz17) (F.2.2.1 _ qz1950) (by decide +kernel) (by decide), F.2.2.1 _ qz1951, F.2.2.1 _ qz1952⟩ tc_85 rfl rfl rfl rfl (Nat.le_of_ble_eq_true rfl) dL_law_1176 hf (fun r2 u2 H locs hw hP hD hO hS => ?_)
  have hH : hxI u2 := sp_fr sp_HX hw.2 (by decide) hH
  have hT : byI u2 := by_fr hw.2 rfl rfl hT
  have hM : imI u2 := sp_fr sp_IM hw.2 (by decide) hM
  have hE : eqv u2 := sp_fr sp_eqv hw.2 (by decide) hE
  have hI : inv0 u2 := ⟨hw.1, sp_fr (sp_nm 11 12) (hw.2) (by decide) (hI.2.1), sp_fr (sp_nm 20 21) (hw.2) (by decide) (hI.2.2.1), sp_fr (sp_nm 62 63) (hw.2) (by decide) (hI.2.2.2.1), sp_fr (sp_nm 71 72) (hw.2) (by decide) (hI.2.2.2.2.1), sp_fr (sp_MS) (hw.2) (by decide) (hI.2.2.2.2.2.1), sp_fr (sp_UI) (hw.2) (by decide) (hI.2.2.2.2.2.2.1), sp_fr (sp_CW) (hw.2) (by decide) (hI.2.2.2.2.2.2.2.1), sp_fr (sp_KI) (hw.2) (by decide) (hI.2.2.2.2.2.2.2.2.1), sp_fr (sp_AP) (hw.2) (by decide) (hI.2.2.2.2.2.2.2.2.2.1), sp_fr (sp_AU) (hw.2) (by decide) (hI.2.2.2.2.2.2.2.2.2.2.1), sp_fr (sp_AK) (hw.2) (by decide) (hI.2.2.2.2.2.2.2.2.2.2.2)⟩
  clear hw
  refine lv_pop F.1 F.2.1 dL_law_1179 rfl ?_
  refine lv_goto (tgt := 1481) F.1 F.2.1 dL_law_1180 (by decide) ?_
  exact W.widen cN_up.1 cN_up.2 (KK nF ad _ H locs ls ⟨hn, rfl, rfl, hN, ⟨hI, hE, hH, hT, hM⟩, hP, hD, fo, hO⟩ hS hl)
set_option maxHeartbeats 1000000 in
theorem law_c32 {p : Program} {l : Launch} {e : Env} {s : State} {m : MethodId} {below : List Frame} {meth : Method} {c : Code} {dC : Nat → ClassId} {dI : Nat → Nat → Nat} {cA : Nat → ClassId} {b L ax bm o j nF : Nat} {xs : Nat → Int32} {i : Int32} {ad : Nat → Nat} {u : ac_U} {H : Heap} {locs : List Loc} {ls : Array Slot} {Q : State → Prop} (F : ac_X p s m #[.ref b] c cL_law RL TB (dC, dI) vwCl (ac_ty cA)) (hml : c.maxLocals = 7) (hX : va_X b L xs s s.heap) (hbl : b < s.heap.size) (hL : L ≤ 3072) (hi : i.toInt = 6 * (j : Int)) (hj : 6 * j + 6 ≤ L) (hG : lw_I (dC, dI) cA ax bm o (fun q => s.heap.size ≤ q) nF ad u H) (hS : va_S (fun q => s.heap.size ≤ q) s.heap H locs) (hl : lv_has ls 7 [(4, .int i), (3, .ref o), (2, .ref bm), (1, .ref ax), (0, .ref b)])
    (KK : ∀ (nF : Nat) (ad : Nat → Nat) (u : ac_U) (H : Heap) (locs : List Loc) (ls : Array Slot), lw_I (dC, dI) cA ax bm o (fun q => s.heap.size ≤ q) nF ad u H → va_S (fun q => s.heap.size ≤ q) s.heap H locs → lv_has ls 7 [(4, .int i), (3, .ref o), (2, .ref bm), (1, .ref ax), (0, .ref b)] → W p l e room_1 s m #[.ref b] below meth c H locs (cN nF (j + 1)) (sN nF (j + 1)) Q (F0 m 1481 ls [])) : W p l e room_1 s m #[.ref b] below meth c H locs (cN nF j) (sN nF j) Q (F0 m 1183 ls []) := by
  obtain ⟨hn, rfl, rfl, hN, ⟨hI, hE, hH, hT, hM⟩, hP, hD, fo, hO⟩ := hG
  have hA : ∀ q : Nat, s.heap.size ≤ q → (fun q : Nat => s.heap.size ≤ q) q := fun _ h => h
  have hbA : ¬ (fun q : Nat => s.heap.size ≤ q) b := Nat.not_le.mpr hbl
  have hf : cN nF j ≤ room_1.cells ∧ sN nF j ≤ room_1.slots := by
    have := cN_le (nF := nF) (j := j) hn (by omega)
    omega
  have hI0 := hI
  have hE0 := hE
  have hH0 := hH
  have hT0 := hT
  have hM0 := hM
  refine lv_aload_n F.1 F.2.1 dL_law_1183 rfl (lv_at hl 3 rfl) ?_
  refine lv_aload_n F.1 F.2.1 dL_law_1184 rfl (lv_at hl 4 rfl) ?_
  refine lv_iload F.1 F.2.1 dL_law_1185 (lv_at hl 0 rfl) ?_
  refine a_ic F (1 : Int32) dL_law_1187 (by decide) ?_
  refine a_iadd F dL_law_1188 hi ic_1 (by omega) (fun v1 hv1 => ?_)
  refine va_sld F.1 F.2.1 hX hbl hbA hS (i_in hv1 (by omega)) dL_law_1189 ?_
  refine lv_aload_n F.1 F.2.1 dL_law_1190 rfl (lv_at hl 4 rfl) ?_
  refine lv_iload F.1 F.2.1 dL_law_1191 (lv_at hl 0 rfl) ?_
  refine a_ic F (2 : Int32) dL_law_1193 (by decide) ?_
  refine a_iadd F dL_law_1194 hi ic_2 (by omega) (fun v2 hv2 => ?_)
  refine va_sld F.1 F.2.1 hX hbl hbA hS (i_in hv2 (by omega)) dL_law_1195 ?_
  refine lv_aload_n F.1 F.2.1 dL_law_1196 rfl (lv_at hl 4 rfl) ?_
  refine lv_iload F.1 F.2.1 dL_law_1197 (lv_at hl 0 rfl) ?_
  refine a_ic F (3 : Int32) dL_law_1199 (by decide) ?_
  refine a_iadd F dL_law_1200 hi ic_3 (by omega) (fun v3 hv3 => ?_)
  refine va_sld F.1 F.2.1 hX hbl hbA hS (i_in hv3 (by omega)) dL_law_1201 ?_
  refine lw_Vi (o := o) (c0 := 0) F hml hl.1 hA hP hD hO hN hS (As := [.int (xs v1.toNatClampNeg), .int (xs v2.toNatClampNeg), .int (xs v3.toNatClampNeg)]) (c_X11_shortest_0 l dC dI ad cA nF u (xs v1.toNatClampNeg) (xs v2.toNatClampNeg) (xs v3.toNatClampNeg) hI.1 ) ⟨callB_of 3 F.2.2.1 (tb_good qz1163) rfl rfl rfl (F.2.2.1 _ qz1) (F.2.2.1 _ qz1160) (by decide +kernel) (by decide), F.2.2.1 _ qz1161, F.2.2.1 _ qz1162⟩ tc_0 rfl rfl rfl rfl (Nat.le_of_ble_eq_true rfl) dL_law_1202 hf (fun r1 u1 H locs hw hP hD hO hS => ?_)
  have hH : hxI u1 := sp_fr sp_HX hw.2.1 (by decide) hH
  have hT : byI u1 := by_fr hw.2.1 rfl rfl hT
  have hM : imI u1 := sp_fr sp_IM hw.2.1 (by decide) hM
  have hE : eqv u1 := sp_fr sp_eqv hw.2.1 (by decide) hE
  have hI : inv0 u1 := ⟨hw.1, sp_fr (sp_nm 11 12) (hw.2.1) (by decide) (hI.2.1), sp_fr (sp_nm 20 21) (hw.2.1) (by decide) (hI.2.2.1), sp_fr (sp_nm 62 63) (hw.2.1) (by decide) (hI.2.2.2.1), sp_fr (sp_nm 71 72) (hw.2.1) (by decide) (hI.2.2.2.2.1), sp_fr (sp_MS) (hw.2.1) (by decide) (hI.2.2.2.2.2.1), sp_fr (sp_UI) (hw.2.1) (by decide) (hI.2.2.2.2.2.2.1), sp_fr (sp_CW) (hw.2.1) (by decide) (hI.2.2.2.2.2.2.2.1), sp_fr (sp_KI) (hw.2.1) (by decide) (hI.2.2.2.2.2.2.2.2.1), sp_fr (sp_AP) (hw.2.1) (by decide) (hI.2.2.2.2.2.2.2.2.2.1), sp_fr (sp_AU) (hw.2.1) (by decide) (hI.2.2.2.2.2.2.2.2.2.2.1), sp_fr (sp_AK) (hw.2.1) (by decide) (hI.2.2.2.2.2.2.2.2.2.2.2)⟩
  clear hw
  refine lv_pop F.1 F.2.1 dL_law_1205 rfl ?_
  refine lv_aload_n F.1 F.2.1 dL_law_1206 rfl (lv_at hl 2 rfl) ?_
  refine lv_aload_n F.1 F.2.1 dL_law_1207 rfl (lv_at hl 4 rfl) ?_
  refine lv_iload F.1 F.2.1 dL_law_1208 (lv_at hl 0 rfl) ?_
  refine a_ic F (1 : Int32) dL_law_1210 (by decide) ?_
  refine a_iadd F dL_law_1211 hi ic_1 (by omega) (fun v4 hv4 => ?_)
  refine va_sld F.1 F.2.1 hX hbl hbA hS (i_in hv4 (by omega)) dL_law_1212 ?_
  refine lv_aload_n F.1 F.2.1 dL_law_1213 rfl (lv_at hl 4 rfl) ?_
  refine lv_iload F.1 F.2.1 dL_law_1214 (lv_at hl 0 rfl) ?_
  refine a_ic F (2 : Int32) dL_law_1216 (by decide) ?_
  refine a_iadd F dL_law_1217 hi ic_2 (by omega) (fun v5 hv5 => ?_)
  refine va_sld F.1 F.2.1 hX hbl hbA hS (i_in hv5 (by omega)) dL_law_1218 ?_
  refine lv_aload_n F.1 F.2.1 dL_law_1219 rfl (lv_at hl 4 rfl) ?_
  refine lv_iload F.1 F.2.1 dL_law_1220 (lv_at hl 0 rfl) ?_
  refine a_ic F (3 : Int32) dL_law_1222 (by decide) ?_
  refine a_iadd F dL_law_1223 hi ic_3 (by omega) (fun v6 hv6 => ?_)
  refine va_sld F.1 F.2.1 hX hbl hbA hS (i_in hv6 (by omega)) dL_law_1224 ?_
  have ev4 : v4 = v1 := Int32.toInt_inj.mp (hv4.trans hv1.symm)
  rw [ev4]
  have ev5 : v5 = v2 := Int32.toInt_inj.mp (hv5.trans hv2.symm)
  rw [ev5]
  have ev6 : v6 = v3 := Int32.toInt_inj.mp (hv6.trans hv3.symm)
  rw [ev6]
  refine lw_Vi (o := o) (c0 := 85) F hml hl.1 hA hP hD hO hN hS (As := [.int (xs v1.toNatClampNeg), .int (xs v2.toNatClampNeg), .int (xs v3.toNatClampNeg)]) (c_X12_shortest_85 l dC dI ad cA nF u1 (xs v1.toNatClampNeg) (xs v2.toNatClampNeg) (xs v3.toNatClampNeg) hI.1 ) ⟨callB_of 3 F.2.2.1 (tb_good qz1965) rfl rfl rfl (F.2.2.1 _ qz17) (F.2.2.1 _ qz1962) (by decide +kernel) (by decide), F.2.2.1 _ qz1963, F.2.2.1 _ qz1964⟩ tc_85 rfl rfl rfl rfl (Nat.le_of_ble_eq_true rfl) dL_law_1225 hf (fun r2 u2 H locs hw hP hD hO hS => ?_)
  have hH : hxI u2 := sp_fr sp_HX hw.2 (by decide) hH
  have hT : byI u2 := by_fr hw.2 rfl rfl hT
  have hM : imI u2 := sp_fr sp_IM hw.2 (by decide) hM
  have hE : eqv u2 := sp_fr sp_eqv hw.2 (by decide) hE
  have hI : inv0 u2 := ⟨hw.1, sp_fr (sp_nm 11 12) (hw.2) (by decide) (hI.2.1), sp_fr (sp_nm 20 21) (hw.2) (by decide) (hI.2.2.1), sp_fr (sp_nm 62 63) (hw.2) (by decide) (hI.2.2.2.1), sp_fr (sp_nm 71 72) (hw.2) (by decide) (hI.2.2.2.2.1), sp_fr (sp_MS) (hw.2) (by decide) (hI.2.2.2.2.2.1), sp_fr (sp_UI) (hw.2) (by decide) (hI.2.2.2.2.2.2.1), sp_fr (sp_CW) (hw.2) (by decide) (hI.2.2.2.2.2.2.2.1), sp_fr (sp_KI) (hw.2) (by decide) (hI.2.2.2.2.2.2.2.2.1), sp_fr (sp_AP) (hw.2) (by decide) (hI.2.2.2.2.2.2.2.2.2.1), sp_fr (sp_AU) (hw.2) (by decide) (hI.2.2.2.2.2.2.2.2.2.2.1), sp_fr (sp_AK) (hw.2) (by decide) (hI.2.2.2.2.2.2.2.2.2.2.2)⟩
  clear hw
  refine lv_pop F.1 F.2.1 dL_law_1228 rfl ?_
  refine lv_goto (tgt := 1481) F.1 F.2.1 dL_law_1229 (by decide) ?_
  exact W.widen cN_up.1 cN_up.2 (KK nF ad _ H locs ls ⟨hn, rfl, rfl, hN, ⟨hI, hE, hH, hT, hM⟩, hP, hD, fo, hO⟩ hS hl)
set_option maxHeartbeats 1000000 in
theorem law_c33 {p : Program} {l : Launch} {e : Env} {s : State} {m : MethodId} {below : List Frame} {meth : Method} {c : Code} {dC : Nat → ClassId} {dI : Nat → Nat → Nat} {cA : Nat → ClassId} {b L ax bm o j nF : Nat} {xs : Nat → Int32} {i : Int32} {ad : Nat → Nat} {u : ac_U} {H : Heap} {locs : List Loc} {ls : Array Slot} {Q : State → Prop} (F : ac_X p s m #[.ref b] c cL_law RL TB (dC, dI) vwCl (ac_ty cA)) (hml : c.maxLocals = 7) (hX : va_X b L xs s s.heap) (hbl : b < s.heap.size) (hL : L ≤ 3072) (hi : i.toInt = 6 * (j : Int)) (hj : 6 * j + 6 ≤ L) (hG : lw_I (dC, dI) cA ax bm o (fun q => s.heap.size ≤ q) nF ad u H) (hS : va_S (fun q => s.heap.size ≤ q) s.heap H locs) (hl : lv_has ls 7 [(4, .int i), (3, .ref o), (2, .ref bm), (1, .ref ax), (0, .ref b)])
    (KK : ∀ (nF : Nat) (ad : Nat → Nat) (u : ac_U) (H : Heap) (locs : List Loc) (ls : Array Slot), lw_I (dC, dI) cA ax bm o (fun q => s.heap.size ≤ q) nF ad u H → va_S (fun q => s.heap.size ≤ q) s.heap H locs → lv_has ls 7 [(4, .int i), (3, .ref o), (2, .ref bm), (1, .ref ax), (0, .ref b)] → W p l e room_1 s m #[.ref b] below meth c H locs (cN nF (j + 1)) (sN nF (j + 1)) Q (F0 m 1481 ls [])) : W p l e room_1 s m #[.ref b] below meth c H locs (cN nF j) (sN nF j) Q (F0 m 1232 ls []) := by
  obtain ⟨hn, rfl, rfl, hN, ⟨hI, hE, hH, hT, hM⟩, hP, hD, fo, hO⟩ := hG
  have hA : ∀ q : Nat, s.heap.size ≤ q → (fun q : Nat => s.heap.size ≤ q) q := fun _ h => h
  have hbA : ¬ (fun q : Nat => s.heap.size ≤ q) b := Nat.not_le.mpr hbl
  have hf : cN nF j ≤ room_1.cells ∧ sN nF j ≤ room_1.slots := by
    have := cN_le (nF := nF) (j := j) hn (by omega)
    omega
  have hI0 := hI
  have hE0 := hE
  have hH0 := hH
  have hT0 := hT
  have hM0 := hM
  refine lv_aload_n F.1 F.2.1 dL_law_1232 rfl (lv_at hl 3 rfl) ?_
  refine lv_aload_n F.1 F.2.1 dL_law_1233 rfl (lv_at hl 4 rfl) ?_
  refine lv_iload F.1 F.2.1 dL_law_1234 (lv_at hl 0 rfl) ?_
  refine a_ic F (1 : Int32) dL_law_1236 (by decide) ?_
  refine a_iadd F dL_law_1237 hi ic_1 (by omega) (fun v1 hv1 => ?_)
  refine va_sld F.1 F.2.1 hX hbl hbA hS (i_in hv1 (by omega)) dL_law_1238 ?_
  refine lv_aload_n F.1 F.2.1 dL_law_1239 rfl (lv_at hl 4 rfl) ?_
  refine lv_iload F.1 F.2.1 dL_law_1240 (lv_at hl 0 rfl) ?_
  refine a_ic F (2 : Int32) dL_law_1242 (by decide) ?_
  refine a_iadd F dL_law_1243 hi ic_2 (by omega) (fun v2 hv2 => ?_)
  refine va_sld F.1 F.2.1 hX hbl hbA hS (i_in hv2 (by omega)) dL_law_1244 ?_
  refine lw_Vi (o := o) (c0 := 0) F hml hl.1 hA hP hD hO hN hS (As := [.int (xs v1.toNatClampNeg), .int (xs v2.toNatClampNeg)]) (c_X11_drawn_0 l dC dI ad cA nF u (xs v1.toNatClampNeg) (xs v2.toNatClampNeg) hI.1 ) ⟨callB_of 2 F.2.2.1 (tb_good qz1171) rfl rfl rfl (F.2.2.1 _ qz1) (F.2.2.1 _ qz1168) (by decide +kernel) (by decide), F.2.2.1 _ qz1169, F.2.2.1 _ qz1170⟩ tc_0 rfl rfl rfl rfl (Nat.le_of_ble_eq_true rfl) dL_law_1245 hf (fun r1 u1 H locs hw hP hD hO hS => ?_)
  have hH : hxI u1 := sp_fr sp_HX hw.2.1 (by decide) hH
  have hT : byI u1 := by_fr hw.2.1 rfl rfl hT
  have hM : imI u1 := sp_fr sp_IM hw.2.1 (by decide) hM
  have hE : eqv u1 := sp_fr sp_eqv hw.2.1 (by decide) hE
  have hI : inv0 u1 := ⟨hw.1, sp_fr (sp_nm 11 12) (hw.2.1) (by decide) (hI.2.1), sp_fr (sp_nm 20 21) (hw.2.1) (by decide) (hI.2.2.1), sp_fr (sp_nm 62 63) (hw.2.1) (by decide) (hI.2.2.2.1), sp_fr (sp_nm 71 72) (hw.2.1) (by decide) (hI.2.2.2.2.1), sp_fr (sp_MS) (hw.2.1) (by decide) (hI.2.2.2.2.2.1), sp_fr (sp_UI) (hw.2.1) (by decide) (hI.2.2.2.2.2.2.1), sp_fr (sp_CW) (hw.2.1) (by decide) (hI.2.2.2.2.2.2.2.1), sp_fr (sp_KI) (hw.2.1) (by decide) (hI.2.2.2.2.2.2.2.2.1), sp_fr (sp_AP) (hw.2.1) (by decide) (hI.2.2.2.2.2.2.2.2.2.1), sp_fr (sp_AU) (hw.2.1) (by decide) (hI.2.2.2.2.2.2.2.2.2.2.1), sp_fr (sp_AK) (hw.2.1) (by decide) (hI.2.2.2.2.2.2.2.2.2.2.2)⟩
  clear hw
  refine lv_pop F.1 F.2.1 dL_law_1248 rfl ?_
  refine lv_aload_n F.1 F.2.1 dL_law_1249 rfl (lv_at hl 2 rfl) ?_
  refine lv_aload_n F.1 F.2.1 dL_law_1250 rfl (lv_at hl 4 rfl) ?_
  refine lv_iload F.1 F.2.1 dL_law_1251 (lv_at hl 0 rfl) ?_
  refine a_ic F (1 : Int32) dL_law_1253 (by decide) ?_
  refine a_iadd F dL_law_1254 hi ic_1 (by omega) (fun v3 hv3 => ?_)
  refine va_sld F.1 F.2.1 hX hbl hbA hS (i_in hv3 (by omega)) dL_law_1255 ?_
  refine lv_aload_n F.1 F.2.1 dL_law_1256 rfl (lv_at hl 4 rfl) ?_
  refine lv_iload F.1 F.2.1 dL_law_1257 (lv_at hl 0 rfl) ?_
  refine a_ic F (2 : Int32) dL_law_1259 (by decide) ?_
  refine a_iadd F dL_law_1260 hi ic_2 (by omega) (fun v4 hv4 => ?_)
  refine va_sld F.1 F.2.1 hX hbl hbA hS (i_in hv4 (by omega)) dL_law_1261 ?_
  have ev3 : v3 = v1 := Int32.toInt_inj.mp (hv3.trans hv1.symm)
  rw [ev3]
  have ev4 : v4 = v2 := Int32.toInt_inj.mp (hv4.trans hv2.symm)
  rw [ev4]
  refine lw_Vi (o := o) (c0 := 85) F hml hl.1 hA hP hD hO hN hS (As := [.int (xs v1.toNatClampNeg), .int (xs v2.toNatClampNeg)]) (c_X12_drawn_85__3 l dC dI ad cA nF u1 (xs v1.toNatClampNeg) (xs v2.toNatClampNeg) hI.1 hI.2.2.2.2.2.1 hI.2.2.2.2.2.2.1 hI.2.2.2.2.2.2.2.1 hI.2.2.2.2.2.2.2.2.2.1 hI.2.2.2.2.2.2.2.2.2.2.1) ⟨callB_of 2 F.2.2.1 (tb_good qz1969) rfl rfl rfl (F.2.2.1 _ qz17) (F.2.2.1 _ qz1966) (by decide +kernel) (by decide), F.2.2.1 _ qz1967, F.2.2.1 _ qz1968⟩ tc_85 rfl rfl rfl rfl (Nat.le_of_ble_eq_true rfl) dL_law_1262 hf (fun r2 u2 H locs hw hP hD hO hS => ?_)
  have hH : hxI u2 := hw.2.2.2.2.2.2.2.2 hH
  have hT : byI u2 := by_fr hw.2.1 rfl rfl hT
  have hM : imI u2 := sp_fr sp_IM hw.2.1 (by decide) hM
  have hE : eqv u2 := sp_fr sp_eqv hw.2.1 (by decide) hE
  have hI : inv0 u2 := ⟨hw.1, sp_fr (sp_nm 11 12) (hw.2.1) (by decide) (hI.2.1), sp_fr (sp_nm 20 21) (hw.2.1) (by decide) (hI.2.2.1), sp_fr (sp_nm 62 63) (hw.2.1) (by decide) (hI.2.2.2.1), sp_fr (sp_nm 71 72) (hw.2.1) (by decide) (hI.2.2.2.2.1), hw.2.2.2.1, hw.2.2.2.2.1, hw.2.2.2.2.2.1, sp_fr (sp_KI) (hw.2.1) (by decide) (hI.2.2.2.2.2.2.2.2.1), hw.2.2.2.2.2.2.1, hw.2.2.2.2.2.2.2.1, sp_fr (sp_AK) (hw.2.1) (by decide) (hI.2.2.2.2.2.2.2.2.2.2.2)⟩
  clear hw
  refine lv_pop F.1 F.2.1 dL_law_1265 rfl ?_
  refine lv_goto (tgt := 1481) F.1 F.2.1 dL_law_1266 (by decide) ?_
  exact W.widen cN_up.1 cN_up.2 (KK nF ad _ H locs ls ⟨hn, rfl, rfl, hN, ⟨hI, hE, hH, hT, hM⟩, hP, hD, fo, hO⟩ hS hl)
set_option maxHeartbeats 1000000 in
theorem law_c34 {p : Program} {l : Launch} {e : Env} {s : State} {m : MethodId} {below : List Frame} {meth : Method} {c : Code} {dC : Nat → ClassId} {dI : Nat → Nat → Nat} {cA : Nat → ClassId} {b L ax bm o j nF : Nat} {xs : Nat → Int32} {i : Int32} {ad : Nat → Nat} {u : ac_U} {H : Heap} {locs : List Loc} {ls : Array Slot} {Q : State → Prop} (F : ac_X p s m #[.ref b] c cL_law RL TB (dC, dI) vwCl (ac_ty cA)) (hml : c.maxLocals = 7) (hX : va_X b L xs s s.heap) (hbl : b < s.heap.size) (hL : L ≤ 3072) (hi : i.toInt = 6 * (j : Int)) (hj : 6 * j + 6 ≤ L) (hG : lw_I (dC, dI) cA ax bm o (fun q => s.heap.size ≤ q) nF ad u H) (hS : va_S (fun q => s.heap.size ≤ q) s.heap H locs) (hl : lv_has ls 7 [(4, .int i), (3, .ref o), (2, .ref bm), (1, .ref ax), (0, .ref b)])
    (KK : ∀ (nF : Nat) (ad : Nat → Nat) (u : ac_U) (H : Heap) (locs : List Loc) (ls : Array Slot), lw_I (dC, dI) cA ax bm o (fun q => s.heap.size ≤ q) nF ad u H → va_S (fun q => s.heap.size ≤ q) s.heap H locs → lv_has ls 7 [(4, .int i), (3, .ref o), (2, .ref bm), (1, .ref ax), (0, .ref b)] → W p l e room_1 s m #[.ref b] below meth c H locs (cN nF (j + 1)) (sN nF (j + 1)) Q (F0 m 1481 ls [])) : W p l e room_1 s m #[.ref b] below meth c H locs (cN nF j) (sN nF j) Q (F0 m 1269 ls []) := by
  obtain ⟨hn, rfl, rfl, hN, ⟨hI, hE, hH, hT, hM⟩, hP, hD, fo, hO⟩ := hG
  have hA : ∀ q : Nat, s.heap.size ≤ q → (fun q : Nat => s.heap.size ≤ q) q := fun _ h => h
  have hbA : ¬ (fun q : Nat => s.heap.size ≤ q) b := Nat.not_le.mpr hbl
  have hf : cN nF j ≤ room_1.cells ∧ sN nF j ≤ room_1.slots := by
    have := cN_le (nF := nF) (j := j) hn (by omega)
    omega
  have hI0 := hI
  have hE0 := hE
  have hH0 := hH
  have hT0 := hT
  have hM0 := hM
  refine lv_aload_n F.1 F.2.1 dL_law_1269 rfl (lv_at hl 3 rfl) ?_
  refine lv_aload_n F.1 F.2.1 dL_law_1270 rfl (lv_at hl 4 rfl) ?_
  refine lv_iload F.1 F.2.1 dL_law_1271 (lv_at hl 0 rfl) ?_
  refine a_ic F (1 : Int32) dL_law_1273 (by decide) ?_
  refine a_iadd F dL_law_1274 hi ic_1 (by omega) (fun v1 hv1 => ?_)
  refine va_sld F.1 F.2.1 hX hbl hbA hS (i_in hv1 (by omega)) dL_law_1275 ?_
  refine lv_aload_n F.1 F.2.1 dL_law_1276 rfl (lv_at hl 4 rfl) ?_
  refine lv_iload F.1 F.2.1 dL_law_1277 (lv_at hl 0 rfl) ?_
  refine a_ic F (2 : Int32) dL_law_1279 (by decide) ?_
  refine a_iadd F dL_law_1280 hi ic_2 (by omega) (fun v2 hv2 => ?_)
  refine va_sld F.1 F.2.1 hX hbl hbA hS (i_in hv2 (by omega)) dL_law_1281 ?_
  refine lv_aload_n F.1 F.2.1 dL_law_1282 rfl (lv_at hl 4 rfl) ?_
  refine lv_iload F.1 F.2.1 dL_law_1283 (lv_at hl 0 rfl) ?_
  refine a_ic F (3 : Int32) dL_law_1285 (by decide) ?_
  refine a_iadd F dL_law_1286 hi ic_3 (by omega) (fun v3 hv3 => ?_)
  refine va_sld F.1 F.2.1 hX hbl hbA hS (i_in hv3 (by omega)) dL_law_1287 ?_
  refine lw_Vi (o := o) (c0 := 0) F hml hl.1 hA hP hD hO hN hS (As := [.int (xs v1.toNatClampNeg), .int (xs v2.toNatClampNeg), .int (xs v3.toNatClampNeg)]) (c_X11_odds_0 l dC dI ad cA nF u (xs v1.toNatClampNeg) (xs v2.toNatClampNeg) (xs v3.toNatClampNeg) hI.1 ) ⟨callB_of 3 F.2.2.1 (tb_good qz1194) rfl rfl rfl (F.2.2.1 _ qz1) (F.2.2.1 _ qz1191) (by decide +kernel) (by decide), F.2.2.1 _ qz1192, F.2.2.1 _ qz1193⟩ tc_0 rfl rfl rfl rfl (Nat.le_of_ble_eq_true rfl) dL_law_1288 hf (fun r1 u1 H locs hw hP hD hO hS => ?_)
  have hH : hxI u1 := sp_fr sp_HX hw.2 (by decide) hH
  have hT : byI u1 := by_fr hw.2 rfl rfl hT
  have hM : imI u1 := sp_fr sp_IM hw.2 (by decide) hM
  have hE : eqv u1 := sp_fr sp_eqv hw.2 (by decide) hE
  have hI : inv0 u1 := ⟨hw.1, sp_fr (sp_nm 11 12) (hw.2) (by decide) (hI.2.1), sp_fr (sp_nm 20 21) (hw.2) (by decide) (hI.2.2.1), sp_fr (sp_nm 62 63) (hw.2) (by decide) (hI.2.2.2.1), sp_fr (sp_nm 71 72) (hw.2) (by decide) (hI.2.2.2.2.1), sp_fr (sp_MS) (hw.2) (by decide) (hI.2.2.2.2.2.1), sp_fr (sp_UI) (hw.2) (by decide) (hI.2.2.2.2.2.2.1), sp_fr (sp_CW) (hw.2) (by decide) (hI.2.2.2.2.2.2.2.1), sp_fr (sp_KI) (hw.2) (by decide) (hI.2.2.2.2.2.2.2.2.1), sp_fr (sp_AP) (hw.2) (by decide) (hI.2.2.2.2.2.2.2.2.2.1), sp_fr (sp_AU) (hw.2) (by decide) (hI.2.2.2.2.2.2.2.2.2.2.1), sp_fr (sp_AK) (hw.2) (by decide) (hI.2.2.2.2.2.2.2.2.2.2.2)⟩
  clear hw
  refine lv_pop F.1 F.2.1 dL_law_1291 rfl ?_
  refine lv_aload_n F.1 F.2.1 dL_law_1292 rfl (lv_at hl 2 rfl) ?_
  refine lv_aload_n F.1 F.2.1 dL_law_1293 rfl (lv_at hl 4 rfl) ?_
  refine lv_iload F.1 F.2.1 dL_law_1294 (lv_at hl 0 rfl) ?_
  refine a_ic F (1 : Int32) dL_law_1296 (by decide) ?_
  refine a_iadd F dL_law_1297 hi ic_1 (by omega) (fun v4 hv4 => ?_)
  refine va_sld F.1 F.2.1 hX hbl hbA hS (i_in hv4 (by omega)) dL_law_1298 ?_
  refine lv_aload_n F.1 F.2.1 dL_law_1299 rfl (lv_at hl 4 rfl) ?_
  refine lv_iload F.1 F.2.1 dL_law_1300 (lv_at hl 0 rfl) ?_
  refine a_ic F (2 : Int32) dL_law_1302 (by decide) ?_
  refine a_iadd F dL_law_1303 hi ic_2 (by omega) (fun v5 hv5 => ?_)
  refine va_sld F.1 F.2.1 hX hbl hbA hS (i_in hv5 (by omega)) dL_law_1304 ?_
  refine lv_aload_n F.1 F.2.1 dL_law_1305 rfl (lv_at hl 4 rfl) ?_
  refine lv_iload F.1 F.2.1 dL_law_1306 (lv_at hl 0 rfl) ?_
  refine a_ic F (3 : Int32) dL_law_1308 (by decide) ?_
  refine a_iadd F dL_law_1309 hi ic_3 (by omega) (fun v6 hv6 => ?_)
  refine va_sld F.1 F.2.1 hX hbl hbA hS (i_in hv6 (by omega)) dL_law_1310 ?_
  have ev4 : v4 = v1 := Int32.toInt_inj.mp (hv4.trans hv1.symm)
  rw [ev4]
  have ev5 : v5 = v2 := Int32.toInt_inj.mp (hv5.trans hv2.symm)
  rw [ev5]
  have ev6 : v6 = v3 := Int32.toInt_inj.mp (hv6.trans hv3.symm)
  rw [ev6]
  refine lw_Vi (o := o) (c0 := 85) F hml hl.1 hA hP hD hO hN hS (As := [.int (xs v1.toNatClampNeg), .int (xs v2.toNatClampNeg), .int (xs v3.toNatClampNeg)]) (c_X12_odds_85__3 l dC dI ad cA nF u1 (xs v1.toNatClampNeg) (xs v2.toNatClampNeg) (xs v3.toNatClampNeg) hI.1 hI.2.2.2.2.2.1 hI.2.2.2.2.2.2.1 hI.2.2.2.2.2.2.2.1 hI.2.2.2.2.2.2.2.2.2.1 hI.2.2.2.2.2.2.2.2.2.2.1) ⟨callB_of 3 F.2.2.1 (tb_good qz1982) rfl rfl rfl (F.2.2.1 _ qz17) (F.2.2.1 _ qz1979) (by decide +kernel) (by decide), F.2.2.1 _ qz1980, F.2.2.1 _ qz1981⟩ tc_85 rfl rfl rfl rfl (Nat.le_of_ble_eq_true rfl) dL_law_1311 hf (fun r2 u2 H locs hw hP hD hO hS => ?_)
  have hH : hxI u2 := hw.2.2.2.2.2.2.2 hH
  have hT : byI u2 := by_fr hw.2.1 rfl rfl hT
  have hM : imI u2 := sp_fr sp_IM hw.2.1 (by decide) hM
  have hE : eqv u2 := sp_fr sp_eqv hw.2.1 (by decide) hE
  have hI : inv0 u2 := ⟨hw.1, sp_fr (sp_nm 11 12) (hw.2.1) (by decide) (hI.2.1), sp_fr (sp_nm 20 21) (hw.2.1) (by decide) (hI.2.2.1), sp_fr (sp_nm 62 63) (hw.2.1) (by decide) (hI.2.2.2.1), sp_fr (sp_nm 71 72) (hw.2.1) (by decide) (hI.2.2.2.2.1), hw.2.2.1, hw.2.2.2.1, hw.2.2.2.2.1, sp_fr (sp_KI) (hw.2.1) (by decide) (hI.2.2.2.2.2.2.2.2.1), hw.2.2.2.2.2.1, hw.2.2.2.2.2.2.1, sp_fr (sp_AK) (hw.2.1) (by decide) (hI.2.2.2.2.2.2.2.2.2.2.2)⟩
  clear hw
  refine lv_pop F.1 F.2.1 dL_law_1314 rfl ?_
  refine lv_goto (tgt := 1481) F.1 F.2.1 dL_law_1315 (by decide) ?_
  exact W.widen cN_up.1 cN_up.2 (KK nF ad _ H locs ls ⟨hn, rfl, rfl, hN, ⟨hI, hE, hH, hT, hM⟩, hP, hD, fo, hO⟩ hS hl)
set_option maxHeartbeats 1000000 in
theorem law_c35 {p : Program} {l : Launch} {e : Env} {s : State} {m : MethodId} {below : List Frame} {meth : Method} {c : Code} {dC : Nat → ClassId} {dI : Nat → Nat → Nat} {cA : Nat → ClassId} {b L ax bm o j nF : Nat} {xs : Nat → Int32} {i : Int32} {ad : Nat → Nat} {u : ac_U} {H : Heap} {locs : List Loc} {ls : Array Slot} {Q : State → Prop} (F : ac_X p s m #[.ref b] c cL_law RL TB (dC, dI) vwCl (ac_ty cA)) (hml : c.maxLocals = 7) (hX : va_X b L xs s s.heap) (hbl : b < s.heap.size) (hL : L ≤ 3072) (hi : i.toInt = 6 * (j : Int)) (hj : 6 * j + 6 ≤ L) (hG : lw_I (dC, dI) cA ax bm o (fun q => s.heap.size ≤ q) nF ad u H) (hS : va_S (fun q => s.heap.size ≤ q) s.heap H locs) (hl : lv_has ls 7 [(4, .int i), (3, .ref o), (2, .ref bm), (1, .ref ax), (0, .ref b)])
    (KK : ∀ (nF : Nat) (ad : Nat → Nat) (u : ac_U) (H : Heap) (locs : List Loc) (ls : Array Slot), lw_I (dC, dI) cA ax bm o (fun q => s.heap.size ≤ q) nF ad u H → va_S (fun q => s.heap.size ≤ q) s.heap H locs → lv_has ls 7 [(4, .int i), (3, .ref o), (2, .ref bm), (1, .ref ax), (0, .ref b)] → W p l e room_1 s m #[.ref b] below meth c H locs (cN nF (j + 1)) (sN nF (j + 1)) Q (F0 m 1481 ls [])) : W p l e room_1 s m #[.ref b] below meth c H locs (cN nF j) (sN nF j) Q (F0 m 1318 ls []) := by
  obtain ⟨hn, rfl, rfl, hN, ⟨hI, hE, hH, hT, hM⟩, hP, hD, fo, hO⟩ := hG
  have hA : ∀ q : Nat, s.heap.size ≤ q → (fun q : Nat => s.heap.size ≤ q) q := fun _ h => h
  have hbA : ¬ (fun q : Nat => s.heap.size ≤ q) b := Nat.not_le.mpr hbl
  have hf : cN nF j ≤ room_1.cells ∧ sN nF j ≤ room_1.slots := by
    have := cN_le (nF := nF) (j := j) hn (by omega)
    omega
  have hI0 := hI
  have hE0 := hE
  have hH0 := hH
  have hT0 := hT
  have hM0 := hM
  refine lv_aload_n F.1 F.2.1 dL_law_1318 rfl (lv_at hl 3 rfl) ?_
  refine lv_aload_n F.1 F.2.1 dL_law_1319 rfl (lv_at hl 4 rfl) ?_
  refine lv_iload F.1 F.2.1 dL_law_1320 (lv_at hl 0 rfl) ?_
  refine a_ic F (1 : Int32) dL_law_1322 (by decide) ?_
  refine a_iadd F dL_law_1323 hi ic_1 (by omega) (fun v1 hv1 => ?_)
  refine va_sld F.1 F.2.1 hX hbl hbA hS (i_in hv1 (by omega)) dL_law_1324 ?_
  refine lw_Vi (o := o) (c0 := 0) F hml hl.1 hA hP hD hO hN hS (As := [.int (xs v1.toNatClampNeg)]) (c_X11_daybook_0__2 l dC dI ad cA nF u (xs v1.toNatClampNeg) hI.1 hI.2.1) ⟨callB_of 1 F.2.2.1 (tb_good qz1206) rfl rfl rfl (F.2.2.1 _ qz1) (F.2.2.1 _ qz1203) (by decide +kernel) (by decide), F.2.2.1 _ qz1204, F.2.2.1 _ qz1205⟩ tc_0 rfl rfl rfl rfl (Nat.le_of_ble_eq_true rfl) dL_law_1325 hf (fun r1 u1 H locs hw hP hD hO hS => ?_)
  have x1_1 : (r1.toInt ≤ 39) := hw.2.2.1
  have x1_2 : ((xs v1.toNatClampNeg).toInt = 0 ∨ (xs v1.toNatClampNeg).toInt = 1 → (u1.1 1 2).toInt = 0) ∧ ((xs v1.toNatClampNeg).toInt ≠ 0 → (xs v1.toNatClampNeg).toInt ≠ 1 → (u1.1 1 2).toInt = (u.1 1 2).toInt) := hw.2.2.2
  have k1_85_2 : (u1.1 85 2).toInt = (u.1 85 2).toInt := congrArg Int32.toInt (hw.2.1 85 2 rfl)
  have k1_53_4 : (u1.1 53 4).toInt = (u.1 53 4).toInt := congrArg Int32.toInt (hw.2.1 53 4 rfl)
  have k1_54_4 : (u1.1 54 4).toInt = (u.1 54 4).toInt := congrArg Int32.toInt (hw.2.1 54 4 rfl)
  have k1_104_0 : (u1.1 104 0).toInt = (u.1 104 0).toInt := congrArg Int32.toInt (hw.2.1 104 0 rfl)
  have k1_104_1 : (u1.1 104 1).toInt = (u.1 104 1).toInt := congrArg Int32.toInt (hw.2.1 104 1 rfl)
  have hH : hxI u1 := sp_fr sp_HX hw.2.1 (by decide) hH
  have hT : byI u1 := by_fr hw.2.1 rfl rfl hT
  have hM : imI u1 := sp_fr sp_IM hw.2.1 (by decide) hM
  have hI : inv0 u1 := ⟨hw.1, sp_fr (sp_nm 11 12) (hw.2.1) (by decide) (hI.2.1), sp_fr (sp_nm 20 21) (hw.2.1) (by decide) (hI.2.2.1), sp_fr (sp_nm 62 63) (hw.2.1) (by decide) (hI.2.2.2.1), sp_fr (sp_nm 71 72) (hw.2.1) (by decide) (hI.2.2.2.2.1), sp_fr (sp_MS) (hw.2.1) (by decide) (hI.2.2.2.2.2.1), sp_fr (sp_UI) (hw.2.1) (by decide) (hI.2.2.2.2.2.2.1), sp_fr (sp_CW) (hw.2.1) (by decide) (hI.2.2.2.2.2.2.2.1), sp_fr (sp_KI) (hw.2.1) (by decide) (hI.2.2.2.2.2.2.2.2.1), sp_fr (sp_AP) (hw.2.1) (by decide) (hI.2.2.2.2.2.2.2.2.2.1), sp_fr (sp_AU) (hw.2.1) (by decide) (hI.2.2.2.2.2.2.2.2.2.2.1), sp_fr (sp_AK) (hw.2.1) (by decide) (hI.2.2.2.2.2.2.2.2.2.2.2)⟩
  clear hw
  refine lv_pop F.1 F.2.1 dL_law_1328 rfl ?_
  refine lv_aload_n F.1 F.2.1 dL_law_1329 rfl (lv_at hl 2 rfl) ?_
  refine lv_aload_n F.1 F.2.1 dL_law_1330 rfl (lv_at hl 4 rfl) ?_
  refine lv_iload F.1 F.2.1 dL_law_1331 (lv_at hl 0 rfl) ?_
  refine a_ic F (1 : Int32) dL_law_1333 (by decide) ?_
  refine a_iadd F dL_law_1334 hi ic_1 (by omega) (fun v2 hv2 => ?_)
  refine va_sld F.1 F.2.1 hX hbl hbA hS (i_in hv2 (by omega)) dL_law_1335 ?_
  have ev2 : v2 = v1 := Int32.toInt_inj.mp (hv2.trans hv1.symm)
  rw [ev2]
  refine lw_Vi (o := o) (c0 := 85) F hml hl.1 hA hP hD hO hN hS (As := [.int (xs v1.toNatClampNeg)]) (c_X12_daybook_85__4 l dC dI ad cA nF u1 (xs v1.toNatClampNeg) hI.1 hI.2.2.2.2.2.1 hI.2.2.2.2.2.2.1 hI.2.2.2.2.2.2.2.1 hI.2.2.2.2.2.2.2.2.2.1 hI.2.2.2.2.2.2.2.2.2.2.1) ⟨callB_of 1 F.2.2.1 (tb_good qz1994) rfl rfl rfl (F.2.2.1 _ qz17) (F.2.2.1 _ qz1991) (by decide +kernel) (by decide), F.2.2.1 _ qz1992, F.2.2.1 _ qz1993⟩ tc_85 rfl rfl rfl rfl (Nat.le_of_ble_eq_true rfl) dL_law_1336 hf (fun r2 u2 H locs hw hP hD hO hS => ?_)
  have x2_1 : ((xs v1.toNatClampNeg).toInt = 0 ∨ (xs v1.toNatClampNeg).toInt = 1 → (u2.1 85 2).toInt = 0) ∧ ((xs v1.toNatClampNeg).toInt ≠ 0 → (xs v1.toNatClampNeg).toInt ≠ 1 → (u2.1 85 2).toInt = (u1.1 85 2).toInt) := hw.2.2.2.2.2.2.2.1
  have k2_1_2 : (u2.1 1 2).toInt = (u1.1 1 2).toInt := congrArg Int32.toInt (hw.2.1 1 2 rfl)
  have k2_53_4 : (u2.1 53 4).toInt = (u1.1 53 4).toInt := congrArg Int32.toInt (hw.2.1 53 4 rfl)
  have k2_54_4 : (u2.1 54 4).toInt = (u1.1 54 4).toInt := congrArg Int32.toInt (hw.2.1 54 4 rfl)
  have k2_104_0 : (u2.1 104 0).toInt = (u1.1 104 0).toInt := congrArg Int32.toInt (hw.2.1 104 0 rfl)
  have k2_104_1 : (u2.1 104 1).toInt = (u1.1 104 1).toInt := congrArg Int32.toInt (hw.2.1 104 1 rfl)
  have hH : hxI u2 := hw.2.2.2.2.2.2.2.2 hH
  have hT : byI u2 := by_fr hw.2.1 rfl rfl hT
  have hM : imI u2 := sp_fr sp_IM hw.2.1 (by decide) hM
  have hI : inv0 u2 := ⟨hw.1, sp_fr (sp_nm 11 12) (hw.2.1) (by decide) (hI.2.1), sp_fr (sp_nm 20 21) (hw.2.1) (by decide) (hI.2.2.1), sp_fr (sp_nm 62 63) (hw.2.1) (by decide) (hI.2.2.2.1), sp_fr (sp_nm 71 72) (hw.2.1) (by decide) (hI.2.2.2.2.1), hw.2.2.1, hw.2.2.2.1, hw.2.2.2.2.1, sp_fr (sp_KI) (hw.2.1) (by decide) (hI.2.2.2.2.2.2.2.2.1), hw.2.2.2.2.2.1, hw.2.2.2.2.2.2.1, sp_fr (sp_AK) (hw.2.1) (by decide) (hI.2.2.2.2.2.2.2.2.2.2.2)⟩
  clear hw
  obtain ⟨hE1, hE2, hE3⟩ := hE
  have hE : eqv u2 := ⟨by omega, by omega, by omega⟩
  refine lv_pop F.1 F.2.1 dL_law_1339 rfl ?_
  refine lv_goto (tgt := 1481) F.1 F.2.1 dL_law_1340 (by decide) ?_
  exact W.widen cN_up.1 cN_up.2 (KK nF ad _ H locs ls ⟨hn, rfl, rfl, hN, ⟨hI, hE, hH, hT, hM⟩, hP, hD, fo, hO⟩ hS hl)
set_option maxHeartbeats 1000000 in
theorem law_c36 {p : Program} {l : Launch} {e : Env} {s : State} {m : MethodId} {below : List Frame} {meth : Method} {c : Code} {dC : Nat → ClassId} {dI : Nat → Nat → Nat} {cA : Nat → ClassId} {b L ax bm o j nF : Nat} {xs : Nat → Int32} {i : Int32} {ad : Nat → Nat} {u : ac_U} {H : Heap} {locs : List Loc} {ls : Array Slot} {Q : State → Prop} (F : ac_X p s m #[.ref b] c cL_law RL TB (dC, dI) vwCl (ac_ty cA)) (hml : c.maxLocals = 7) (hX : va_X b L xs s s.heap) (hbl : b < s.heap.size) (hL : L ≤ 3072) (hi : i.toInt = 6 * (j : Int)) (hj : 6 * j + 6 ≤ L) (hG : lw_I (dC, dI) cA ax bm o (fun q => s.heap.size ≤ q) nF ad u H) (hS : va_S (fun q => s.heap.size ≤ q) s.heap H locs) (hl : lv_has ls 7 [(4, .int i), (3, .ref o), (2, .ref bm), (1, .ref ax), (0, .ref b)])
    (KK : ∀ (nF : Nat) (ad : Nat → Nat) (u : ac_U) (H : Heap) (locs : List Loc) (ls : Array Slot), lw_I (dC, dI) cA ax bm o (fun q => s.heap.size ≤ q) nF ad u H → va_S (fun q => s.heap.size ≤ q) s.heap H locs → lv_has ls 7 [(4, .int i), (3, .ref o), (2, .ref bm), (1, .ref ax), (0, .ref b)] → W p l e room_1 s m #[.ref b] below meth c H locs (cN nF (j + 1)) (sN nF (j + 1)) Q (F0 m 1481 ls [])) : W p l e room_1 s m #[.ref b] below meth c H locs (cN nF j) (sN nF j) Q (F0 m 1343 ls []) := by
  obtain ⟨hn, rfl, rfl, hN, ⟨hI, hE, hH, hT, hM⟩, hP, hD, fo, hO⟩ := hG
  have hA : ∀ q : Nat, s.heap.size ≤ q → (fun q : Nat => s.heap.size ≤ q) q := fun _ h => h
  have hbA : ¬ (fun q : Nat => s.heap.size ≤ q) b := Nat.not_le.mpr hbl
  have hf : cN nF j ≤ room_1.cells ∧ sN nF j ≤ room_1.slots := by
    have := cN_le (nF := nF) (j := j) hn (by omega)
    omega
  have hI0 := hI
  have hE0 := hE
  have hH0 := hH
  have hT0 := hT
  have hM0 := hM
  refine lv_aload_n F.1 F.2.1 dL_law_1343 rfl (lv_at hl 3 rfl) ?_
  refine lv_aload_n F.1 F.2.1 dL_law_1344 rfl (lv_at hl 4 rfl) ?_
  refine lv_iload F.1 F.2.1 dL_law_1345 (lv_at hl 0 rfl) ?_
  refine a_ic F (1 : Int32) dL_law_1347 (by decide) ?_
  refine a_iadd F dL_law_1348 hi ic_1 (by omega) (fun v1 hv1 => ?_)
  refine va_sld F.1 F.2.1 hX hbl hbA hS (i_in hv1 (by omega)) dL_law_1349 ?_
  refine lw_Vi (o := o) (c0 := 0) F hml hl.1 hA hP hD hO hN hS (As := [.int (xs v1.toNatClampNeg)]) (c_X11_booked_0 l dC dI ad cA nF u (xs v1.toNatClampNeg) hI.1 ) ⟨callB_of 1 F.2.2.1 (tb_good qz1253) rfl rfl rfl (F.2.2.1 _ qz1) (F.2.2.1 _ qz1250) (by decide +kernel) (by decide), F.2.2.1 _ qz1251, F.2.2.1 _ qz1252⟩ tc_0 rfl rfl rfl rfl (Nat.le_of_ble_eq_true rfl) dL_law_1350 hf (fun r1 u1 H locs hw hP hD hO hS => ?_)
  have hH : hxI u1 := by rw [hw]; exact hH
  have hT : byI u1 := by rw [hw]; exact hT
  have hM : imI u1 := by rw [hw]; exact hM
  have hE : eqv u1 := by rw [hw]; exact hE
  have hI : inv0 u1 := by rw [hw]; exact hI
  clear hw
  refine lv_pop F.1 F.2.1 dL_law_1353 rfl ?_
  refine lv_aload_n F.1 F.2.1 dL_law_1354 rfl (lv_at hl 2 rfl) ?_
  refine lv_aload_n F.1 F.2.1 dL_law_1355 rfl (lv_at hl 4 rfl) ?_
  refine lv_iload F.1 F.2.1 dL_law_1356 (lv_at hl 0 rfl) ?_
  refine a_ic F (1 : Int32) dL_law_1358 (by decide) ?_
  refine a_iadd F dL_law_1359 hi ic_1 (by omega) (fun v2 hv2 => ?_)
  refine va_sld F.1 F.2.1 hX hbl hbA hS (i_in hv2 (by omega)) dL_law_1360 ?_
  have ev2 : v2 = v1 := Int32.toInt_inj.mp (hv2.trans hv1.symm)
  rw [ev2]
  refine lw_Vi (o := o) (c0 := 85) F hml hl.1 hA hP hD hO hN hS (As := [.int (xs v1.toNatClampNeg)]) (c_X12_booked_85 l dC dI ad cA nF u1 (xs v1.toNatClampNeg) hI.1 ) ⟨callB_of 1 F.2.2.1 (tb_good qz2007) rfl rfl rfl (F.2.2.1 _ qz17) (F.2.2.1 _ qz2004) (by decide +kernel) (by decide), F.2.2.1 _ qz2005, F.2.2.1 _ qz2006⟩ tc_85 rfl rfl rfl rfl (Nat.le_of_ble_eq_true rfl) dL_law_1361 hf (fun r2 u2 H locs hw hP hD hO hS => ?_)
  have hH : hxI u2 := sp_fr sp_HX hw.2 (by decide) hH
  have hT : byI u2 := by_fr hw.2 rfl rfl hT
  have hM : imI u2 := sp_fr sp_IM hw.2 (by decide) hM
  have hE : eqv u2 := sp_fr sp_eqv hw.2 (by decide) hE
  have hI : inv0 u2 := ⟨hw.1, sp_fr (sp_nm 11 12) (hw.2) (by decide) (hI.2.1), sp_fr (sp_nm 20 21) (hw.2) (by decide) (hI.2.2.1), sp_fr (sp_nm 62 63) (hw.2) (by decide) (hI.2.2.2.1), sp_fr (sp_nm 71 72) (hw.2) (by decide) (hI.2.2.2.2.1), sp_fr (sp_MS) (hw.2) (by decide) (hI.2.2.2.2.2.1), sp_fr (sp_UI) (hw.2) (by decide) (hI.2.2.2.2.2.2.1), sp_fr (sp_CW) (hw.2) (by decide) (hI.2.2.2.2.2.2.2.1), sp_fr (sp_KI) (hw.2) (by decide) (hI.2.2.2.2.2.2.2.2.1), sp_fr (sp_AP) (hw.2) (by decide) (hI.2.2.2.2.2.2.2.2.2.1), sp_fr (sp_AU) (hw.2) (by decide) (hI.2.2.2.2.2.2.2.2.2.2.1), sp_fr (sp_AK) (hw.2) (by decide) (hI.2.2.2.2.2.2.2.2.2.2.2)⟩
  clear hw
  refine lv_pop F.1 F.2.1 dL_law_1364 rfl ?_
  refine lv_goto (tgt := 1481) F.1 F.2.1 dL_law_1365 (by decide) ?_
  exact W.widen cN_up.1 cN_up.2 (KK nF ad _ H locs ls ⟨hn, rfl, rfl, hN, ⟨hI, hE, hH, hT, hM⟩, hP, hD, fo, hO⟩ hS hl)
set_option maxHeartbeats 1000000 in
theorem law_c37 {p : Program} {l : Launch} {e : Env} {s : State} {m : MethodId} {below : List Frame} {meth : Method} {c : Code} {dC : Nat → ClassId} {dI : Nat → Nat → Nat} {cA : Nat → ClassId} {b L ax bm o j nF : Nat} {xs : Nat → Int32} {i : Int32} {ad : Nat → Nat} {u : ac_U} {H : Heap} {locs : List Loc} {ls : Array Slot} {Q : State → Prop} (F : ac_X p s m #[.ref b] c cL_law RL TB (dC, dI) vwCl (ac_ty cA)) (hml : c.maxLocals = 7) (hX : va_X b L xs s s.heap) (hbl : b < s.heap.size) (hL : L ≤ 3072) (hi : i.toInt = 6 * (j : Int)) (hj : 6 * j + 6 ≤ L) (hG : lw_I (dC, dI) cA ax bm o (fun q => s.heap.size ≤ q) nF ad u H) (hS : va_S (fun q => s.heap.size ≤ q) s.heap H locs) (hl : lv_has ls 7 [(4, .int i), (3, .ref o), (2, .ref bm), (1, .ref ax), (0, .ref b)])
    (KK : ∀ (nF : Nat) (ad : Nat → Nat) (u : ac_U) (H : Heap) (locs : List Loc) (ls : Array Slot), lw_I (dC, dI) cA ax bm o (fun q => s.heap.size ≤ q) nF ad u H → va_S (fun q => s.heap.size ≤ q) s.heap H locs → lv_has ls 7 [(4, .int i), (3, .ref o), (2, .ref bm), (1, .ref ax), (0, .ref b)] → W p l e room_1 s m #[.ref b] below meth c H locs (cN nF (j + 1)) (sN nF (j + 1)) Q (F0 m 1481 ls [])) : W p l e room_1 s m #[.ref b] below meth c H locs (cN nF j) (sN nF j) Q (F0 m 1368 ls []) := by
  obtain ⟨hn, rfl, rfl, hN, ⟨hI, hE, hH, hT, hM⟩, hP, hD, fo, hO⟩ := hG
  have hA : ∀ q : Nat, s.heap.size ≤ q → (fun q : Nat => s.heap.size ≤ q) q := fun _ h => h
  have hbA : ¬ (fun q : Nat => s.heap.size ≤ q) b := Nat.not_le.mpr hbl
  have hf : cN nF j ≤ room_1.cells ∧ sN nF j ≤ room_1.slots := by
    have := cN_le (nF := nF) (j := j) hn (by omega)
    omega
  have hI0 := hI
  have hE0 := hE
  have hH0 := hH
  have hT0 := hT
  have hM0 := hM
  refine lv_aload_n F.1 F.2.1 dL_law_1368 rfl (lv_at hl 3 rfl) ?_
  refine lw_Vi (o := o) (c0 := 0) F hml hl.1 hA hP hD hO hN hS (As := []) (c_X11_sentence_0__2 l dC dI ad cA nF u  hI.1 hI.2.1) ⟨callB_of 0 F.2.2.1 (tb_good qz1257) rfl rfl rfl (F.2.2.1 _ qz1) (F.2.2.1 _ qz1254) (by decide +kernel) (by decide), F.2.2.1 _ qz1255, F.2.2.1 _ qz1256⟩ tc_0 rfl rfl rfl rfl (Nat.le_of_ble_eq_true rfl) dL_law_1369 hf (fun r1 u1 H locs hw hP hD hO hS => ?_)
  have x1_1 : ((-941 : Int) ≤ r1.toInt ∧ r1.toInt ≤ 20) := hw.2.2.1
  have x1_2 : (u1.1 1 2).toInt = 0 := hw.2.2.2
  have k1_85_2 : (u1.1 85 2).toInt = (u.1 85 2).toInt := congrArg Int32.toInt (hw.2.1 85 2 rfl)
  have k1_53_4 : (u1.1 53 4).toInt = (u.1 53 4).toInt := congrArg Int32.toInt (hw.2.1 53 4 rfl)
  have k1_54_4 : (u1.1 54 4).toInt = (u.1 54 4).toInt := congrArg Int32.toInt (hw.2.1 54 4 rfl)
  have k1_104_0 : (u1.1 104 0).toInt = (u.1 104 0).toInt := congrArg Int32.toInt (hw.2.1 104 0 rfl)
  have k1_104_1 : (u1.1 104 1).toInt = (u.1 104 1).toInt := congrArg Int32.toInt (hw.2.1 104 1 rfl)
  have hH : hxI u1 := sp_fr sp_HX hw.2.1 (by decide) hH
  have hT : byI u1 := by_fr hw.2.1 rfl rfl hT
  have hM : imI u1 := sp_fr sp_IM hw.2.1 (by decide) hM
  have hI : inv0 u1 := ⟨hw.1, sp_fr (sp_nm 11 12) (hw.2.1) (by decide) (hI.2.1), sp_fr (sp_nm 20 21) (hw.2.1) (by decide) (hI.2.2.1), sp_fr (sp_nm 62 63) (hw.2.1) (by decide) (hI.2.2.2.1), sp_fr (sp_nm 71 72) (hw.2.1) (by decide) (hI.2.2.2.2.1), sp_fr (sp_MS) (hw.2.1) (by decide) (hI.2.2.2.2.2.1), sp_fr (sp_UI) (hw.2.1) (by decide) (hI.2.2.2.2.2.2.1), sp_fr (sp_CW) (hw.2.1) (by decide) (hI.2.2.2.2.2.2.2.1), sp_fr (sp_KI) (hw.2.1) (by decide) (hI.2.2.2.2.2.2.2.2.1), sp_fr (sp_AP) (hw.2.1) (by decide) (hI.2.2.2.2.2.2.2.2.2.1), sp_fr (sp_AU) (hw.2.1) (by decide) (hI.2.2.2.2.2.2.2.2.2.2.1), sp_fr (sp_AK) (hw.2.1) (by decide) (hI.2.2.2.2.2.2.2.2.2.2.2)⟩
  clear hw
  refine lv_pop F.1 F.2.1 dL_law_1372 rfl ?_
  refine lv_aload_n F.1 F.2.1 dL_law_1373 rfl (lv_at hl 2 rfl) ?_
  refine lw_Vi (o := o) (c0 := 85) F hml hl.1 hA hP hD hO hN hS (As := []) (c_X12_sentence_85__3 l dC dI ad cA nF u1  hI.1 hI.2.2.2.2.2.1 hI.2.2.2.2.2.2.1 hI.2.2.2.2.2.2.2.1 hI.2.2.2.2.2.2.2.2.2.1 hI.2.2.2.2.2.2.2.2.2.2.1) ⟨callB_of 0 F.2.2.1 (tb_good qz2011) rfl rfl rfl (F.2.2.1 _ qz17) (F.2.2.1 _ qz2008) (by decide +kernel) (by decide), F.2.2.1 _ qz2009, F.2.2.1 _ qz2010⟩ tc_85 rfl rfl rfl rfl (Nat.le_of_ble_eq_true rfl) dL_law_1374 hf (fun r2 u2 H locs hw hP hD hO hS => ?_)
  have x2_1 : (u2.1 85 2).toInt = 0 := hw.2.2.2.2.2.2.2.1
  have k2_1_2 : (u2.1 1 2).toInt = (u1.1 1 2).toInt := congrArg Int32.toInt (hw.2.1 1 2 rfl)
  have k2_53_4 : (u2.1 53 4).toInt = (u1.1 53 4).toInt := congrArg Int32.toInt (hw.2.1 53 4 rfl)
  have k2_54_4 : (u2.1 54 4).toInt = (u1.1 54 4).toInt := congrArg Int32.toInt (hw.2.1 54 4 rfl)
  have k2_104_0 : (u2.1 104 0).toInt = (u1.1 104 0).toInt := congrArg Int32.toInt (hw.2.1 104 0 rfl)
  have k2_104_1 : (u2.1 104 1).toInt = (u1.1 104 1).toInt := congrArg Int32.toInt (hw.2.1 104 1 rfl)
  have hH : hxI u2 := hw.2.2.2.2.2.2.2.2 hH
  have hT : byI u2 := by_fr hw.2.1 rfl rfl hT
  have hM : imI u2 := sp_fr sp_IM hw.2.1 (by decide) hM
  have hI : inv0 u2 := ⟨hw.1, sp_fr (sp_nm 11 12) (hw.2.1) (by decide) (hI.2.1), sp_fr (sp_nm 20 21) (hw.2.1) (by decide) (hI.2.2.1), sp_fr (sp_nm 62 63) (hw.2.1) (by decide) (hI.2.2.2.1), sp_fr (sp_nm 71 72) (hw.2.1) (by decide) (hI.2.2.2.2.1), hw.2.2.1, hw.2.2.2.1, hw.2.2.2.2.1, sp_fr (sp_KI) (hw.2.1) (by decide) (hI.2.2.2.2.2.2.2.2.1), hw.2.2.2.2.2.1, hw.2.2.2.2.2.2.1, sp_fr (sp_AK) (hw.2.1) (by decide) (hI.2.2.2.2.2.2.2.2.2.2.2)⟩
  clear hw
  obtain ⟨hE1, hE2, hE3⟩ := hE
  have hE : eqv u2 := ⟨by omega, by omega, by omega⟩
  refine lv_pop F.1 F.2.1 dL_law_1377 rfl ?_
  refine lv_goto (tgt := 1481) F.1 F.2.1 dL_law_1378 (by decide) ?_
  exact W.widen cN_up.1 cN_up.2 (KK nF ad _ H locs ls ⟨hn, rfl, rfl, hN, ⟨hI, hE, hH, hT, hM⟩, hP, hD, fo, hO⟩ hS hl)
set_option maxHeartbeats 1000000 in
theorem law_c38 {p : Program} {l : Launch} {e : Env} {s : State} {m : MethodId} {below : List Frame} {meth : Method} {c : Code} {dC : Nat → ClassId} {dI : Nat → Nat → Nat} {cA : Nat → ClassId} {b L ax bm o j nF : Nat} {xs : Nat → Int32} {i : Int32} {ad : Nat → Nat} {u : ac_U} {H : Heap} {locs : List Loc} {ls : Array Slot} {Q : State → Prop} (F : ac_X p s m #[.ref b] c cL_law RL TB (dC, dI) vwCl (ac_ty cA)) (hml : c.maxLocals = 7) (hX : va_X b L xs s s.heap) (hbl : b < s.heap.size) (hL : L ≤ 3072) (hi : i.toInt = 6 * (j : Int)) (hj : 6 * j + 6 ≤ L) (hG : lw_I (dC, dI) cA ax bm o (fun q => s.heap.size ≤ q) nF ad u H) (hS : va_S (fun q => s.heap.size ≤ q) s.heap H locs) (hl : lv_has ls 7 [(4, .int i), (3, .ref o), (2, .ref bm), (1, .ref ax), (0, .ref b)])
    (KK : ∀ (nF : Nat) (ad : Nat → Nat) (u : ac_U) (H : Heap) (locs : List Loc) (ls : Array Slot), lw_I (dC, dI) cA ax bm o (fun q => s.heap.size ≤ q) nF ad u H → va_S (fun q => s.heap.size ≤ q) s.heap H locs → lv_has ls 7 [(4, .int i), (3, .ref o), (2, .ref bm), (1, .ref ax), (0, .ref b)] → W p l e room_1 s m #[.ref b] below meth c H locs (cN nF (j + 1)) (sN nF (j + 1)) Q (F0 m 1481 ls [])) : W p l e room_1 s m #[.ref b] below meth c H locs (cN nF j) (sN nF j) Q (F0 m 1381 ls []) := by
  obtain ⟨hn, rfl, rfl, hN, ⟨hI, hE, hH, hT, hM⟩, hP, hD, fo, hO⟩ := hG
  have hA : ∀ q : Nat, s.heap.size ≤ q → (fun q : Nat => s.heap.size ≤ q) q := fun _ h => h
  have hbA : ¬ (fun q : Nat => s.heap.size ≤ q) b := Nat.not_le.mpr hbl
  have hf : cN nF j ≤ room_1.cells ∧ sN nF j ≤ room_1.slots := by
    have := cN_le (nF := nF) (j := j) hn (by omega)
    omega
  have hI0 := hI
  have hE0 := hE
  have hH0 := hH
  have hT0 := hT
  have hM0 := hM
  refine lv_aload_n F.1 F.2.1 dL_law_1381 rfl (lv_at hl 3 rfl) ?_
  refine lv_aload_n F.1 F.2.1 dL_law_1382 rfl (lv_at hl 4 rfl) ?_
  refine lv_iload F.1 F.2.1 dL_law_1383 (lv_at hl 0 rfl) ?_
  refine a_ic F (1 : Int32) dL_law_1385 (by decide) ?_
  refine a_iadd F dL_law_1386 hi ic_1 (by omega) (fun v1 hv1 => ?_)
  refine va_sld F.1 F.2.1 hX hbl hbA hS (i_in hv1 (by omega)) dL_law_1387 ?_
  refine lw_Vi (o := o) (c0 := 0) F hml hl.1 hA hP hD hO hN hS (As := [.int (xs v1.toNatClampNeg)]) (c_X11_said_0 l dC dI ad cA nF u (xs v1.toNatClampNeg) hI.1 ) ⟨callB_of 1 F.2.2.1 (tb_good qz1317) rfl rfl rfl (F.2.2.1 _ qz1) (F.2.2.1 _ qz1314) (by decide +kernel) (by decide), F.2.2.1 _ qz1315, F.2.2.1 _ qz1316⟩ tc_0 rfl rfl rfl rfl (Nat.le_of_ble_eq_true rfl) dL_law_1388 hf (fun r1 u1 H locs hw hP hD hO hS => ?_)
  have hH : hxI u1 := sp_fr sp_HX hw.2 (by decide) hH
  have hT : byI u1 := by_fr hw.2 rfl rfl hT
  have hM : imI u1 := sp_fr sp_IM hw.2 (by decide) hM
  have hE : eqv u1 := sp_fr sp_eqv hw.2 (by decide) hE
  have hI : inv0 u1 := ⟨hw.1, sp_fr (sp_nm 11 12) (hw.2) (by decide) (hI.2.1), sp_fr (sp_nm 20 21) (hw.2) (by decide) (hI.2.2.1), sp_fr (sp_nm 62 63) (hw.2) (by decide) (hI.2.2.2.1), sp_fr (sp_nm 71 72) (hw.2) (by decide) (hI.2.2.2.2.1), sp_fr (sp_MS) (hw.2) (by decide) (hI.2.2.2.2.2.1), sp_fr (sp_UI) (hw.2) (by decide) (hI.2.2.2.2.2.2.1), sp_fr (sp_CW) (hw.2) (by decide) (hI.2.2.2.2.2.2.2.1), sp_fr (sp_KI) (hw.2) (by decide) (hI.2.2.2.2.2.2.2.2.1), sp_fr (sp_AP) (hw.2) (by decide) (hI.2.2.2.2.2.2.2.2.2.1), sp_fr (sp_AU) (hw.2) (by decide) (hI.2.2.2.2.2.2.2.2.2.2.1), sp_fr (sp_AK) (hw.2) (by decide) (hI.2.2.2.2.2.2.2.2.2.2.2)⟩
  clear hw
  refine lv_pop F.1 F.2.1 dL_law_1391 rfl ?_
  refine lv_aload_n F.1 F.2.1 dL_law_1392 rfl (lv_at hl 2 rfl) ?_
  refine lv_aload_n F.1 F.2.1 dL_law_1393 rfl (lv_at hl 4 rfl) ?_
  refine lv_iload F.1 F.2.1 dL_law_1394 (lv_at hl 0 rfl) ?_
  refine a_ic F (1 : Int32) dL_law_1396 (by decide) ?_
  refine a_iadd F dL_law_1397 hi ic_1 (by omega) (fun v2 hv2 => ?_)
  refine va_sld F.1 F.2.1 hX hbl hbA hS (i_in hv2 (by omega)) dL_law_1398 ?_
  have ev2 : v2 = v1 := Int32.toInt_inj.mp (hv2.trans hv1.symm)
  rw [ev2]
  refine lw_Vi (o := o) (c0 := 85) F hml hl.1 hA hP hD hO hN hS (As := [.int (xs v1.toNatClampNeg)]) (c_X12_said_85 l dC dI ad cA nF u1 (xs v1.toNatClampNeg) hI.1 hI.2.2.2.2.2.2.2.1) ⟨callB_of 1 F.2.2.1 (tb_good qz2039) rfl rfl rfl (F.2.2.1 _ qz17) (F.2.2.1 _ qz2036) (by decide +kernel) (by decide), F.2.2.1 _ qz2037, F.2.2.1 _ qz2038⟩ tc_85 rfl rfl rfl rfl (Nat.le_of_ble_eq_true rfl) dL_law_1399 hf (fun r2 u2 H locs hw hP hD hO hS => ?_)
  have hH : hxI u2 := sp_fr sp_HX hw.2 (by decide) hH
  have hT : byI u2 := by_fr hw.2 rfl rfl hT
  have hM : imI u2 := sp_fr sp_IM hw.2 (by decide) hM
  have hE : eqv u2 := sp_fr sp_eqv hw.2 (by decide) hE
  have hI : inv0 u2 := ⟨hw.1, sp_fr (sp_nm 11 12) (hw.2) (by decide) (hI.2.1), sp_fr (sp_nm 20 21) (hw.2) (by decide) (hI.2.2.1), sp_fr (sp_nm 62 63) (hw.2) (by decide) (hI.2.2.2.1), sp_fr (sp_nm 71 72) (hw.2) (by decide) (hI.2.2.2.2.1), sp_fr (sp_MS) (hw.2) (by decide) (hI.2.2.2.2.2.1), sp_fr (sp_UI) (hw.2) (by decide) (hI.2.2.2.2.2.2.1), sp_fr (sp_CW) (hw.2) (by decide) (hI.2.2.2.2.2.2.2.1), sp_fr (sp_KI) (hw.2) (by decide) (hI.2.2.2.2.2.2.2.2.1), sp_fr (sp_AP) (hw.2) (by decide) (hI.2.2.2.2.2.2.2.2.2.1), sp_fr (sp_AU) (hw.2) (by decide) (hI.2.2.2.2.2.2.2.2.2.2.1), sp_fr (sp_AK) (hw.2) (by decide) (hI.2.2.2.2.2.2.2.2.2.2.2)⟩
  clear hw
  refine lv_pop F.1 F.2.1 dL_law_1402 rfl ?_
  refine lv_goto (tgt := 1481) F.1 F.2.1 dL_law_1403 (by decide) ?_
  exact W.widen cN_up.1 cN_up.2 (KK nF ad _ H locs ls ⟨hn, rfl, rfl, hN, ⟨hI, hE, hH, hT, hM⟩, hP, hD, fo, hO⟩ hS hl)
set_option maxHeartbeats 1000000 in
theorem law_c39 {p : Program} {l : Launch} {e : Env} {s : State} {m : MethodId} {below : List Frame} {meth : Method} {c : Code} {dC : Nat → ClassId} {dI : Nat → Nat → Nat} {cA : Nat → ClassId} {b L ax bm o j nF : Nat} {xs : Nat → Int32} {i : Int32} {ad : Nat → Nat} {u : ac_U} {H : Heap} {locs : List Loc} {ls : Array Slot} {Q : State → Prop} (F : ac_X p s m #[.ref b] c cL_law RL TB (dC, dI) vwCl (ac_ty cA)) (hml : c.maxLocals = 7) (hX : va_X b L xs s s.heap) (hbl : b < s.heap.size) (hL : L ≤ 3072) (hi : i.toInt = 6 * (j : Int)) (hj : 6 * j + 6 ≤ L) (hG : lw_I (dC, dI) cA ax bm o (fun q => s.heap.size ≤ q) nF ad u H) (hS : va_S (fun q => s.heap.size ≤ q) s.heap H locs) (hl : lv_has ls 7 [(4, .int i), (3, .ref o), (2, .ref bm), (1, .ref ax), (0, .ref b)])
    (KK : ∀ (nF : Nat) (ad : Nat → Nat) (u : ac_U) (H : Heap) (locs : List Loc) (ls : Array Slot), lw_I (dC, dI) cA ax bm o (fun q => s.heap.size ≤ q) nF ad u H → va_S (fun q => s.heap.size ≤ q) s.heap H locs → lv_has ls 7 [(4, .int i), (3, .ref o), (2, .ref bm), (1, .ref ax), (0, .ref b)] → W p l e room_1 s m #[.ref b] below meth c H locs (cN nF (j + 1)) (sN nF (j + 1)) Q (F0 m 1481 ls [])) : W p l e room_1 s m #[.ref b] below meth c H locs (cN nF j) (sN nF j) Q (F0 m 1406 ls []) := by
  obtain ⟨hn, rfl, rfl, hN, ⟨hI, hE, hH, hT, hM⟩, hP, hD, fo, hO⟩ := hG
  have hA : ∀ q : Nat, s.heap.size ≤ q → (fun q : Nat => s.heap.size ≤ q) q := fun _ h => h
  have hbA : ¬ (fun q : Nat => s.heap.size ≤ q) b := Nat.not_le.mpr hbl
  have hf : cN nF j ≤ room_1.cells ∧ sN nF j ≤ room_1.slots := by
    have := cN_le (nF := nF) (j := j) hn (by omega)
    omega
  have hI0 := hI
  have hE0 := hE
  have hH0 := hH
  have hT0 := hT
  have hM0 := hM
  refine lv_aload_n F.1 F.2.1 dL_law_1406 rfl (lv_at hl 3 rfl) ?_
  refine lv_aload_n F.1 F.2.1 dL_law_1407 rfl (lv_at hl 4 rfl) ?_
  refine lv_iload F.1 F.2.1 dL_law_1408 (lv_at hl 0 rfl) ?_
  refine a_ic F (1 : Int32) dL_law_1410 (by decide) ?_
  refine a_iadd F dL_law_1411 hi ic_1 (by omega) (fun v1 hv1 => ?_)
  refine va_sld F.1 F.2.1 hX hbl hbA hS (i_in hv1 (by omega)) dL_law_1412 ?_
  refine lw_Vi (o := o) (c0 := 0) F hml hl.1 hA hP hD hO hN hS (As := [.int (xs v1.toNatClampNeg)]) (x_X11_image_0 l dC dI ad cA nF u (xs v1.toNatClampNeg) hI.1 hI.2.1 hI.2.2.2.1 hI.2.2.2.2.1) ⟨callB_of 1 F.2.2.1 (tb_good qz1334) rfl rfl rfl (F.2.2.1 _ qz1) (F.2.2.1 _ qz1331) (by decide +kernel) (by decide), F.2.2.1 _ qz1332, F.2.2.1 _ qz1333⟩ tc_0 rfl rfl rfl rfl (Nat.le_of_ble_eq_true rfl) dL_law_1413 hf (fun r1 u1 H locs hw hP hD hO hS => ?_)
  have x1_1 : ((0 : Int) ≤ r1.toInt ∧ r1.toInt ≤ 1) := hw.2.2.1
  have x1_2 : (((r1.toInt ≠ 0 → 0 ≤ (xs v1.toNatClampNeg).toInt ∧ (xs v1.toNatClampNeg).toInt ≤ 1) ∧ (r1.toInt = 0 → (xs v1.toNatClampNeg).toInt < 0 ∨ 1 < (xs v1.toNatClampNeg).toInt)) ∧ ((xs v1.toNatClampNeg).toInt = 0 → (u1.1 53 4).toInt = 1 ∧ (u1.1 54 4).toInt = (u.1 54 4).toInt) ∧ ((xs v1.toNatClampNeg).toInt = 1 → (u1.1 54 4).toInt = 1 ∧ (u1.1 53 4).toInt = (u.1 53 4).toInt) ∧ ((xs v1.toNatClampNeg).toInt < 0 ∨ 1 < (xs v1.toNatClampNeg).toInt → (u1.1 53 4).toInt = (u.1 53 4).toInt ∧ (u1.1 54 4).toInt = (u.1 54 4).toInt)) := hw.2.2.2.1
  have k1_1_2 : (u1.1 1 2).toInt = (u.1 1 2).toInt := congrArg Int32.toInt (hw.2.1 1 2 rfl)
  have k1_85_2 : (u1.1 85 2).toInt = (u.1 85 2).toInt := congrArg Int32.toInt (hw.2.1 85 2 rfl)
  have k1_104_0 : (u1.1 104 0).toInt = (u.1 104 0).toInt := congrArg Int32.toInt (hw.2.1 104 0 rfl)
  have k1_104_1 : (u1.1 104 1).toInt = (u.1 104 1).toInt := congrArg Int32.toInt (hw.2.1 104 1 rfl)
  have hF1 := hw.2.1
  have hx1 : f_X11_image_0 u (xs v1.toNatClampNeg) = (u1, r1) := hw.2.2.2.2.2.2
  have hH : hxI u1 := sp_fr sp_HX hw.2.1 (by decide) hH
  have hT : byI u1 := by_fr hw.2.1 rfl rfl hT
  have hI : inv0 u1 := ⟨hw.1, sp_fr (sp_nm 11 12) (hw.2.1) (by decide) (hI.2.1), sp_fr (sp_nm 20 21) (hw.2.1) (by decide) (hI.2.2.1), hw.2.2.2.2.1, hw.2.2.2.2.2.1, sp_fr (sp_MS) (hw.2.1) (by decide) (hI.2.2.2.2.2.1), sp_fr (sp_UI) (hw.2.1) (by decide) (hI.2.2.2.2.2.2.1), sp_fr (sp_CW) (hw.2.1) (by decide) (hI.2.2.2.2.2.2.2.1), sp_fr (sp_KI) (hw.2.1) (by decide) (hI.2.2.2.2.2.2.2.2.1), sp_fr (sp_AP) (hw.2.1) (by decide) (hI.2.2.2.2.2.2.2.2.2.1), sp_fr (sp_AU) (hw.2.1) (by decide) (hI.2.2.2.2.2.2.2.2.2.2.1), sp_fr (sp_AK) (hw.2.1) (by decide) (hI.2.2.2.2.2.2.2.2.2.2.2)⟩
  clear hw
  refine lv_pop F.1 F.2.1 dL_law_1416 rfl ?_
  refine lv_aload_n F.1 F.2.1 dL_law_1417 rfl (lv_at hl 2 rfl) ?_
  refine lv_aload_n F.1 F.2.1 dL_law_1418 rfl (lv_at hl 4 rfl) ?_
  refine lv_iload F.1 F.2.1 dL_law_1419 (lv_at hl 0 rfl) ?_
  refine a_ic F (1 : Int32) dL_law_1421 (by decide) ?_
  refine a_iadd F dL_law_1422 hi ic_1 (by omega) (fun v2 hv2 => ?_)
  refine va_sld F.1 F.2.1 hX hbl hbA hS (i_in hv2 (by omega)) dL_law_1423 ?_
  have ev2 : v2 = v1 := Int32.toInt_inj.mp (hv2.trans hv1.symm)
  rw [ev2]
  refine lw_Vi (o := o) (c0 := 85) F hml hl.1 hA hP hD hO hN hS (As := [.int (xs v1.toNatClampNeg)]) (x_X12_image_85 l dC dI ad cA nF u1 (xs v1.toNatClampNeg) hI.1 hI.2.2.2.2.2.2.2.2.1 hI.2.2.2.2.2.2.2.2.2.2.2 hI.2.2.2.2.2.1 hI.2.2.2.2.2.2.2.1 hI.2.2.2.2.2.2.2.2.2.1) ⟨callB_of 1 F.2.2.1 (tb_good qz2051) rfl rfl rfl (F.2.2.1 _ qz17) (F.2.2.1 _ qz2048) (by decide +kernel) (by decide), F.2.2.1 _ qz2049, F.2.2.1 _ qz2050⟩ tc_85 rfl rfl rfl rfl (Nat.le_of_ble_eq_true rfl) dL_law_1424 hf (fun r2 u2 H locs hw hP hD hO hS => ?_)
  have x2_1 : ((0 : Int) ≤ r2.toInt ∧ r2.toInt ≤ 1) := hw.2.2.1
  have x2_2 : ((r2.toInt ≠ 0 → 0 ≤ (xs v1.toNatClampNeg).toInt ∧ (xs v1.toNatClampNeg).toInt ≤ 1) ∧ (r2.toInt = 0 → (xs v1.toNatClampNeg).toInt < 0 ∨ 1 < (xs v1.toNatClampNeg).toInt)) := hw.2.2.2.1
  have x2_3 : ((xs v1.toNatClampNeg).toInt = 0 → (u2.1 104 0).toInt = 1 ∧ (u2.1 104 1).toInt = (u1.1 104 1).toInt) ∧ ((xs v1.toNatClampNeg).toInt = 1 → (u2.1 104 1).toInt = 1 ∧ (u2.1 104 0).toInt = (u1.1 104 0).toInt) ∧ ((xs v1.toNatClampNeg).toInt < 0 ∨ 1 < (xs v1.toNatClampNeg).toInt → (u2.1 104 0).toInt = (u1.1 104 0).toInt ∧ (u2.1 104 1).toInt = (u1.1 104 1).toInt) := hw.2.2.2.2.2.2.1
  have k2_1_2 : (u2.1 1 2).toInt = (u1.1 1 2).toInt := congrArg Int32.toInt (hw.2.1 1 2 rfl)
  have k2_85_2 : (u2.1 85 2).toInt = (u1.1 85 2).toInt := congrArg Int32.toInt (hw.2.1 85 2 rfl)
  have k2_53_4 : (u2.1 53 4).toInt = (u1.1 53 4).toInt := congrArg Int32.toInt (hw.2.1 53 4 rfl)
  have k2_54_4 : (u2.1 54 4).toInt = (u1.1 54 4).toInt := congrArg Int32.toInt (hw.2.1 54 4 rfl)
  have hF2 := hw.2.1
  have hx2 : f_X12_image_85 u1 (xs v1.toNatClampNeg) = (u2, r2) := hw.2.2.2.2.2.2.2
  have hH : hxI u2 := sp_fr sp_HX hw.2.1 (by decide) hH
  have hT : byI u2 := by_fr hw.2.1 rfl rfl hT
  have hI : inv0 u2 := ⟨hw.1, sp_fr (sp_nm 11 12) (hw.2.1) (by decide) (hI.2.1), sp_fr (sp_nm 20 21) (hw.2.1) (by decide) (hI.2.2.1), sp_fr (sp_nm 62 63) (hw.2.1) (by decide) (hI.2.2.2.1), sp_fr (sp_nm 71 72) (hw.2.1) (by decide) (hI.2.2.2.2.1), sp_fr (sp_MS) (hw.2.1) (by decide) (hI.2.2.2.2.2.1), sp_fr (sp_UI) (hw.2.1) (by decide) (hI.2.2.2.2.2.2.1), sp_fr (sp_CW) (hw.2.1) (by decide) (hI.2.2.2.2.2.2.2.1), hw.2.2.2.2.1, sp_fr (sp_AP) (hw.2.1) (by decide) (hI.2.2.2.2.2.2.2.2.2.1), sp_fr (sp_AU) (hw.2.1) (by decide) (hI.2.2.2.2.2.2.2.2.2.2.1), hw.2.2.2.2.2.1⟩
  clear hw
  obtain ⟨hE1, hE2, hE3⟩ := hE
  have hE : eqv u2 := ⟨by omega, by omega, by omega⟩
  have hM : imI u2 := tw_image hF1 hF2 (by decide) (by decide) hx1 hx2 hH0 hM
  refine lv_pop F.1 F.2.1 dL_law_1427 rfl ?_
  refine lv_goto (tgt := 1481) F.1 F.2.1 dL_law_1428 (by decide) ?_
  exact W.widen cN_up.1 cN_up.2 (KK nF ad _ H locs ls ⟨hn, rfl, rfl, hN, ⟨hI, hE, hH, hT, hM⟩, hP, hD, fo, hO⟩ hS hl)
set_option maxHeartbeats 1000000 in
theorem law_c40 {p : Program} {l : Launch} {e : Env} {s : State} {m : MethodId} {below : List Frame} {meth : Method} {c : Code} {dC : Nat → ClassId} {dI : Nat → Nat → Nat} {cA : Nat → ClassId} {b L ax bm o j nF : Nat} {xs : Nat → Int32} {i : Int32} {ad : Nat → Nat} {u : ac_U} {H : Heap} {locs : List Loc} {ls : Array Slot} {Q : State → Prop} (F : ac_X p s m #[.ref b] c cL_law RL TB (dC, dI) vwCl (ac_ty cA)) (hml : c.maxLocals = 7) (hX : va_X b L xs s s.heap) (hbl : b < s.heap.size) (hL : L ≤ 3072) (hi : i.toInt = 6 * (j : Int)) (hj : 6 * j + 6 ≤ L) (hG : lw_I (dC, dI) cA ax bm o (fun q => s.heap.size ≤ q) nF ad u H) (hS : va_S (fun q => s.heap.size ≤ q) s.heap H locs) (hl : lv_has ls 7 [(4, .int i), (3, .ref o), (2, .ref bm), (1, .ref ax), (0, .ref b)])
    (KK : ∀ (nF : Nat) (ad : Nat → Nat) (u : ac_U) (H : Heap) (locs : List Loc) (ls : Array Slot), lw_I (dC, dI) cA ax bm o (fun q => s.heap.size ≤ q) nF ad u H → va_S (fun q => s.heap.size ≤ q) s.heap H locs → lv_has ls 7 [(4, .int i), (3, .ref o), (2, .ref bm), (1, .ref ax), (0, .ref b)] → W p l e room_1 s m #[.ref b] below meth c H locs (cN nF (j + 1)) (sN nF (j + 1)) Q (F0 m 1481 ls [])) : W p l e room_1 s m #[.ref b] below meth c H locs (cN nF j) (sN nF j) Q (F0 m 1431 ls []) := by
  obtain ⟨hn, rfl, rfl, hN, ⟨hI, hE, hH, hT, hM⟩, hP, hD, fo, hO⟩ := hG
  have hA : ∀ q : Nat, s.heap.size ≤ q → (fun q : Nat => s.heap.size ≤ q) q := fun _ h => h
  have hbA : ¬ (fun q : Nat => s.heap.size ≤ q) b := Nat.not_le.mpr hbl
  have hf : cN nF j ≤ room_1.cells ∧ sN nF j ≤ room_1.slots := by
    have := cN_le (nF := nF) (j := j) hn (by omega)
    omega
  have hI0 := hI
  have hE0 := hE
  have hH0 := hH
  have hT0 := hT
  have hM0 := hM
  refine lv_aload_n F.1 F.2.1 dL_law_1431 rfl (lv_at hl 3 rfl) ?_
  refine lv_aload_n F.1 F.2.1 dL_law_1432 rfl (lv_at hl 4 rfl) ?_
  refine lv_iload F.1 F.2.1 dL_law_1433 (lv_at hl 0 rfl) ?_
  refine a_ic F (1 : Int32) dL_law_1435 (by decide) ?_
  refine a_iadd F dL_law_1436 hi ic_1 (by omega) (fun v1 hv1 => ?_)
  refine va_sld F.1 F.2.1 hX hbl hbA hS (i_in hv1 (by omega)) dL_law_1437 ?_
  refine lw_Vi (o := o) (c0 := 0) F hml hl.1 hA hP hD hO hN hS (As := [.int (xs v1.toNatClampNeg)]) (x_X11_restore_0 l dC dI ad cA nF u (xs v1.toNatClampNeg) hI.1 hI.2.1 hI.2.2.2.1 hI.2.2.2.2.1) ⟨callB_of 1 F.2.2.1 (tb_good qz1345) rfl rfl rfl (F.2.2.1 _ qz1) (F.2.2.1 _ qz1342) (by decide +kernel) (by decide), F.2.2.1 _ qz1343, F.2.2.1 _ qz1344⟩ tc_0 rfl rfl rfl rfl (Nat.le_of_ble_eq_true rfl) dL_law_1438 hf (fun r1 u1 H locs hw hP hD hO hS => ?_)
  have hF1 := hw.2.1
  have hx1 : f_X11_restore_0 u (xs v1.toNatClampNeg) = (u1, r1) := hw.2.2.2.2.2
  have hT : byI u1 := by_fr hw.2.1 rfl rfl hT
  have hM : imI u1 := sp_fr sp_IM hw.2.1 (by decide) hM
  have hE : eqv u1 := sp_fr sp_eqv hw.2.1 (by decide) hE
  have hI : inv0 u1 := ⟨hw.1, hw.2.2.2.2.1, sp_fr (sp_nm 20 21) (hw.2.1) (by decide) (hI.2.2.1), sp_fr (sp_nm 62 63) (hw.2.1) (by decide) (hI.2.2.2.1), sp_fr (sp_nm 71 72) (hw.2.1) (by decide) (hI.2.2.2.2.1), sp_fr (sp_MS) (hw.2.1) (by decide) (hI.2.2.2.2.2.1), sp_fr (sp_UI) (hw.2.1) (by decide) (hI.2.2.2.2.2.2.1), sp_fr (sp_CW) (hw.2.1) (by decide) (hI.2.2.2.2.2.2.2.1), sp_fr (sp_KI) (hw.2.1) (by decide) (hI.2.2.2.2.2.2.2.2.1), sp_fr (sp_AP) (hw.2.1) (by decide) (hI.2.2.2.2.2.2.2.2.2.1), sp_fr (sp_AU) (hw.2.1) (by decide) (hI.2.2.2.2.2.2.2.2.2.2.1), sp_fr (sp_AK) (hw.2.1) (by decide) (hI.2.2.2.2.2.2.2.2.2.2.2)⟩
  clear hw
  refine lv_pop F.1 F.2.1 dL_law_1441 rfl ?_
  refine lv_aload_n F.1 F.2.1 dL_law_1442 rfl (lv_at hl 2 rfl) ?_
  refine lv_aload_n F.1 F.2.1 dL_law_1443 rfl (lv_at hl 4 rfl) ?_
  refine lv_iload F.1 F.2.1 dL_law_1444 (lv_at hl 0 rfl) ?_
  refine a_ic F (1 : Int32) dL_law_1446 (by decide) ?_
  refine a_iadd F dL_law_1447 hi ic_1 (by omega) (fun v2 hv2 => ?_)
  refine va_sld F.1 F.2.1 hX hbl hbA hS (i_in hv2 (by omega)) dL_law_1448 ?_
  have ev2 : v2 = v1 := Int32.toInt_inj.mp (hv2.trans hv1.symm)
  rw [ev2]
  refine lw_Vi (o := o) (c0 := 85) F hml hl.1 hA hP hD hO hN hS (As := [.int (xs v1.toNatClampNeg)]) (x_X12_restore_85 l dC dI ad cA nF u1 (xs v1.toNatClampNeg) hI.1 hI.2.2.2.2.2.1 hI.2.2.2.2.2.2.1 hI.2.2.2.2.2.2.2.1 hI.2.2.2.2.2.2.2.2.2.1 hI.2.2.2.2.2.2.2.2.2.2.1 hI.2.2.2.2.2.2.2.2.1 hI.2.2.2.2.2.2.2.2.2.2.2) ⟨callB_of 1 F.2.2.1 (tb_good qz2055) rfl rfl rfl (F.2.2.1 _ qz17) (F.2.2.1 _ qz2052) (by decide +kernel) (by decide), F.2.2.1 _ qz2053, F.2.2.1 _ qz2054⟩ tc_85 rfl rfl rfl rfl (Nat.le_of_ble_eq_true rfl) dL_law_1449 hf (fun r2 u2 H locs hw hP hD hO hS => ?_)
  have hF2 := hw.2.1
  have hx2 : f_X12_restore_85 u1 (xs v1.toNatClampNeg) = (u2, r2) := hw.2.2.2.2.2.2.2.2.2
  have hT : byI u2 := by_fr hw.2.1 rfl rfl hT
  have hM : imI u2 := sp_fr sp_IM hw.2.1 (by decide) hM
  have hE : eqv u2 := sp_fr sp_eqv hw.2.1 (by decide) hE
  have hI : inv0 u2 := ⟨hw.1, sp_fr (sp_nm 11 12) (hw.2.1) (by decide) (hI.2.1), sp_fr (sp_nm 20 21) (hw.2.1) (by decide) (hI.2.2.1), sp_fr (sp_nm 62 63) (hw.2.1) (by decide) (hI.2.2.2.1), sp_fr (sp_nm 71 72) (hw.2.1) (by decide) (hI.2.2.2.2.1), hw.2.2.2.2.1, hw.2.2.2.2.2.1, hw.2.2.2.2.2.2.1, sp_fr (sp_KI) (hw.2.1) (by decide) (hI.2.2.2.2.2.2.2.2.1), hw.2.2.2.2.2.2.2.1, hw.2.2.2.2.2.2.2.2.1, sp_fr (sp_AK) (hw.2.1) (by decide) (hI.2.2.2.2.2.2.2.2.2.2.2)⟩
  clear hw
  have hH : hxI u2 := tw_restore hF1 hF2 (by decide) (by decide) hx1 hx2 hE0.2.1 hE0.2.2 hH0 hM0
  refine lv_pop F.1 F.2.1 dL_law_1452 rfl ?_
  refine lv_goto (tgt := 1481) F.1 F.2.1 dL_law_1453 (by decide) ?_
  exact W.widen cN_up.1 cN_up.2 (KK nF ad _ H locs ls ⟨hn, rfl, rfl, hN, ⟨hI, hE, hH, hT, hM⟩, hP, hD, fo, hO⟩ hS hl)
set_option maxHeartbeats 1000000 in
theorem law_c41 {p : Program} {l : Launch} {e : Env} {s : State} {m : MethodId} {below : List Frame} {meth : Method} {c : Code} {dC : Nat → ClassId} {dI : Nat → Nat → Nat} {cA : Nat → ClassId} {b L ax bm o j nF : Nat} {xs : Nat → Int32} {i : Int32} {ad : Nat → Nat} {u : ac_U} {H : Heap} {locs : List Loc} {ls : Array Slot} {Q : State → Prop} (F : ac_X p s m #[.ref b] c cL_law RL TB (dC, dI) vwCl (ac_ty cA)) (hml : c.maxLocals = 7) (hX : va_X b L xs s s.heap) (hbl : b < s.heap.size) (hL : L ≤ 3072) (hi : i.toInt = 6 * (j : Int)) (hj : 6 * j + 6 ≤ L) (hG : lw_I (dC, dI) cA ax bm o (fun q => s.heap.size ≤ q) nF ad u H) (hS : va_S (fun q => s.heap.size ≤ q) s.heap H locs) (hl : lv_has ls 7 [(4, .int i), (3, .ref o), (2, .ref bm), (1, .ref ax), (0, .ref b)])
    (KK : ∀ (nF : Nat) (ad : Nat → Nat) (u : ac_U) (H : Heap) (locs : List Loc) (ls : Array Slot), lw_I (dC, dI) cA ax bm o (fun q => s.heap.size ≤ q) nF ad u H → va_S (fun q => s.heap.size ≤ q) s.heap H locs → lv_has ls 7 [(4, .int i), (3, .ref o), (2, .ref bm), (1, .ref ax), (0, .ref b)] → W p l e room_1 s m #[.ref b] below meth c H locs (cN nF (j + 1)) (sN nF (j + 1)) Q (F0 m 1481 ls [])) : W p l e room_1 s m #[.ref b] below meth c H locs (cN nF j) (sN nF j) Q (F0 m 1456 ls []) := by
  obtain ⟨hn, rfl, rfl, hN, ⟨hI, hE, hH, hT, hM⟩, hP, hD, fo, hO⟩ := hG
  have hA : ∀ q : Nat, s.heap.size ≤ q → (fun q : Nat => s.heap.size ≤ q) q := fun _ h => h
  have hbA : ¬ (fun q : Nat => s.heap.size ≤ q) b := Nat.not_le.mpr hbl
  have hf : cN nF j ≤ room_1.cells ∧ sN nF j ≤ room_1.slots := by
    have := cN_le (nF := nF) (j := j) hn (by omega)
    omega
  have hI0 := hI
  have hE0 := hE
  have hH0 := hH
  have hT0 := hT
  have hM0 := hM
  refine lv_aload_n F.1 F.2.1 dL_law_1456 rfl (lv_at hl 3 rfl) ?_
  refine lv_aload_n F.1 F.2.1 dL_law_1457 rfl (lv_at hl 4 rfl) ?_
  refine lv_iload F.1 F.2.1 dL_law_1458 (lv_at hl 0 rfl) ?_
  refine a_ic F (1 : Int32) dL_law_1460 (by decide) ?_
  refine a_iadd F dL_law_1461 hi ic_1 (by omega) (fun v1 hv1 => ?_)
  refine va_sld F.1 F.2.1 hX hbl hbA hS (i_in hv1 (by omega)) dL_law_1462 ?_
  refine lw_Vi (o := o) (c0 := 0) F hml hl.1 hA hP hD hO hN hS (As := [.int (xs v1.toNatClampNeg)]) (c_X11_count_0 l dC dI ad cA nF u (xs v1.toNatClampNeg) hI.1 ) ⟨callB_of 1 F.2.2.1 (tb_good qz1353) rfl rfl rfl (F.2.2.1 _ qz1) (F.2.2.1 _ qz1350) (by decide +kernel) (by decide), F.2.2.1 _ qz1351, F.2.2.1 _ qz1352⟩ tc_0 rfl rfl rfl rfl (Nat.le_of_ble_eq_true rfl) dL_law_1463 hf (fun r1 u1 H locs hw hP hD hO hS => ?_)
  have hH : hxI u1 := by rw [hw.1]; exact hH
  have hT : byI u1 := by rw [hw.1]; exact hT
  have hM : imI u1 := by rw [hw.1]; exact hM
  have hE : eqv u1 := by rw [hw.1]; exact hE
  have hI : inv0 u1 := by rw [hw.1]; exact hI
  clear hw
  refine lv_pop F.1 F.2.1 dL_law_1466 rfl ?_
  refine lv_aload_n F.1 F.2.1 dL_law_1467 rfl (lv_at hl 2 rfl) ?_
  refine lv_aload_n F.1 F.2.1 dL_law_1468 rfl (lv_at hl 4 rfl) ?_
  refine lv_iload F.1 F.2.1 dL_law_1469 (lv_at hl 0 rfl) ?_
  refine a_ic F (1 : Int32) dL_law_1471 (by decide) ?_
  refine a_iadd F dL_law_1472 hi ic_1 (by omega) (fun v2 hv2 => ?_)
  refine va_sld F.1 F.2.1 hX hbl hbA hS (i_in hv2 (by omega)) dL_law_1473 ?_
  have ev2 : v2 = v1 := Int32.toInt_inj.mp (hv2.trans hv1.symm)
  rw [ev2]
  refine lw_Vi (o := o) (c0 := 85) F hml hl.1 hA hP hD hO hN hS (As := [.int (xs v1.toNatClampNeg)]) (c_X12_count_85 l dC dI ad cA nF u1 (xs v1.toNatClampNeg) hI.1 ) ⟨callB_of 1 F.2.2.1 (tb_good qz2059) rfl rfl rfl (F.2.2.1 _ qz17) (F.2.2.1 _ qz2056) (by decide +kernel) (by decide), F.2.2.1 _ qz2057, F.2.2.1 _ qz2058⟩ tc_85 rfl rfl rfl rfl (Nat.le_of_ble_eq_true rfl) dL_law_1474 hf (fun r2 u2 H locs hw hP hD hO hS => ?_)
  have hH : hxI u2 := sp_fr sp_HX hw.2.1 (by decide) hH
  have hT : byI u2 := by_fr hw.2.1 rfl rfl hT
  have hM : imI u2 := sp_fr sp_IM hw.2.1 (by decide) hM
  have hE : eqv u2 := sp_fr sp_eqv hw.2.1 (by decide) hE
  have hI : inv0 u2 := ⟨hw.1, sp_fr (sp_nm 11 12) (hw.2.1) (by decide) (hI.2.1), sp_fr (sp_nm 20 21) (hw.2.1) (by decide) (hI.2.2.1), sp_fr (sp_nm 62 63) (hw.2.1) (by decide) (hI.2.2.2.1), sp_fr (sp_nm 71 72) (hw.2.1) (by decide) (hI.2.2.2.2.1), sp_fr (sp_MS) (hw.2.1) (by decide) (hI.2.2.2.2.2.1), sp_fr (sp_UI) (hw.2.1) (by decide) (hI.2.2.2.2.2.2.1), sp_fr (sp_CW) (hw.2.1) (by decide) (hI.2.2.2.2.2.2.2.1), sp_fr (sp_KI) (hw.2.1) (by decide) (hI.2.2.2.2.2.2.2.2.1), sp_fr (sp_AP) (hw.2.1) (by decide) (hI.2.2.2.2.2.2.2.2.2.1), sp_fr (sp_AU) (hw.2.1) (by decide) (hI.2.2.2.2.2.2.2.2.2.2.1), sp_fr (sp_AK) (hw.2.1) (by decide) (hI.2.2.2.2.2.2.2.2.2.2.2)⟩
  clear hw
  refine lv_pop F.1 F.2.1 dL_law_1477 rfl ?_
  refine lv_goto (tgt := 1481) F.1 F.2.1 dL_law_1478 (by decide) ?_
  exact W.widen cN_up.1 cN_up.2 (KK nF ad _ H locs ls ⟨hn, rfl, rfl, hN, ⟨hI, hE, hH, hT, hM⟩, hP, hD, fo, hO⟩ hS hl)
