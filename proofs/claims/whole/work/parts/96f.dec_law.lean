theorem dL_law_3579 : decode cL_law 3579 = .ok (.aload_n 0, 1) := by decide +kernel
theorem dL_law_3580 : decode cL_law 3580 = .ok (.iload 5, 2) := by decide +kernel
theorem dL_law_3582 : decode cL_law 3582 = .ok (.iconst 1, 1) := by decide +kernel
theorem dL_law_3583 : decode cL_law 3583 = .ok (.iadd, 1) := by decide +kernel
theorem dL_law_3584 : decode cL_law 3584 = .ok (.iaload, 1) := by decide +kernel
theorem dL_law_3585 : decode cL_law 3585 = .ok (.aload_n 0, 1) := by decide +kernel
theorem dL_law_3586 : decode cL_law 3586 = .ok (.iload 5, 2) := by decide +kernel
theorem dL_law_3588 : decode cL_law 3588 = .ok (.iconst 2, 1) := by decide +kernel
theorem dL_law_3589 : decode cL_law 3589 = .ok (.iadd, 1) := by decide +kernel
theorem dL_law_3590 : decode cL_law 3590 = .ok (.iaload, 1) := by decide +kernel
theorem dL_law_3591 : decode cL_law 3591 = .ok (.invokevirtual 363, 3) := by decide +kernel
theorem dL_law_3594 : decode cL_law 3594 = .ok (.istore 7, 2) := by decide +kernel
theorem dL_law_3596 : decode cL_law 3596 = .ok (.aload_n 2, 1) := by decide +kernel
theorem dL_law_3597 : decode cL_law 3597 = .ok (.invokevirtual 202, 3) := by decide +kernel
theorem dL_law_3600 : decode cL_law 3600 = .ok (.iload 6, 2) := by decide +kernel
theorem dL_law_3602 : decode cL_law 3602 = .ok (.if_icmp .eq 5, 3) := by decide +kernel
theorem dL_law_3605 : decode cL_law 3605 = .ok (.iconst 0, 1) := by decide +kernel
theorem dL_law_3606 : decode cL_law 3606 = .ok (.ireturn, 1) := by decide +kernel
theorem dL_law_3607 : decode cL_law 3607 = .ok (.iload 6, 2) := by decide +kernel
theorem dL_law_3609 : decode cL_law 3609 = .ok (.ifCond .ne 15, 3) := by decide +kernel
theorem dL_law_3612 : decode cL_law 3612 = .ok (.aload_n 3, 1) := by decide +kernel
theorem dL_law_3613 : decode cL_law 3613 = .ok (.iconst 0, 1) := by decide +kernel
theorem dL_law_3614 : decode cL_law 3614 = .ok (.laload, 1) := by decide +kernel
theorem dL_law_3615 : decode cL_law 3615 = .ok (.iload 7, 2) := by decide +kernel
theorem dL_law_3617 : decode cL_law 3617 = .ok (.i2l, 1) := by decide +kernel
theorem dL_law_3618 : decode cL_law 3618 = .ok (.lcmp, 1) := by decide +kernel
theorem dL_law_3619 : decode cL_law 3619 = .ok (.ifCond .eq 5, 3) := by decide +kernel
theorem dL_law_3622 : decode cL_law 3622 = .ok (.iconst 0, 1) := by decide +kernel
theorem dL_law_3623 : decode cL_law 3623 = .ok (.ireturn, 1) := by decide +kernel
theorem dL_law_3624 : decode cL_law 3624 = .ok (.goto 625, 3) := by decide +kernel
theorem dL_law_3627 : decode cL_law 3627 = .ok (.aload_n 1, 1) := by decide +kernel
theorem dL_law_3628 : decode cL_law 3628 = .ok (.aload_n 0, 1) := by decide +kernel
theorem dL_law_3629 : decode cL_law 3629 = .ok (.iload 5, 2) := by decide +kernel
theorem dL_law_3631 : decode cL_law 3631 = .ok (.iconst 1, 1) := by decide +kernel
theorem dL_law_3632 : decode cL_law 3632 = .ok (.iadd, 1) := by decide +kernel
theorem dL_law_3633 : decode cL_law 3633 = .ok (.iaload, 1) := by decide +kernel
theorem dL_law_3634 : decode cL_law 3634 = .ok (.aload_n 3, 1) := by decide +kernel
theorem dL_law_3635 : decode cL_law 3635 = .ok (.invokestatic 364, 3) := by decide +kernel
theorem dL_law_3638 : decode cL_law 3638 = .ok (.istore 6, 2) := by decide +kernel
theorem dL_law_3640 : decode cL_law 3640 = .ok (.aload_n 2, 1) := by decide +kernel
theorem dL_law_3641 : decode cL_law 3641 = .ok (.aload_n 0, 1) := by decide +kernel
theorem dL_law_3642 : decode cL_law 3642 = .ok (.iload 5, 2) := by decide +kernel
theorem dL_law_3644 : decode cL_law 3644 = .ok (.iconst 1, 1) := by decide +kernel
theorem dL_law_3645 : decode cL_law 3645 = .ok (.iadd, 1) := by decide +kernel
theorem dL_law_3646 : decode cL_law 3646 = .ok (.iaload, 1) := by decide +kernel
theorem dL_law_3647 : decode cL_law 3647 = .ok (.invokevirtual 366, 3) := by decide +kernel
theorem dL_law_3650 : decode cL_law 3650 = .ok (.istore 7, 2) := by decide +kernel
theorem dL_law_3652 : decode cL_law 3652 = .ok (.aload_n 2, 1) := by decide +kernel
theorem dL_law_3653 : decode cL_law 3653 = .ok (.invokevirtual 202, 3) := by decide +kernel
theorem dL_law_3656 : decode cL_law 3656 = .ok (.iload 6, 2) := by decide +kernel
theorem dL_law_3658 : decode cL_law 3658 = .ok (.if_icmp .eq 5, 3) := by decide +kernel
theorem dL_law_3661 : decode cL_law 3661 = .ok (.iconst 0, 1) := by decide +kernel
theorem dL_law_3662 : decode cL_law 3662 = .ok (.ireturn, 1) := by decide +kernel
theorem dL_law_3663 : decode cL_law 3663 = .ok (.iload 6, 2) := by decide +kernel
theorem dL_law_3665 : decode cL_law 3665 = .ok (.ifCond .ne 15, 3) := by decide +kernel
theorem dL_law_3668 : decode cL_law 3668 = .ok (.aload_n 3, 1) := by decide +kernel
theorem dL_law_3669 : decode cL_law 3669 = .ok (.iconst 0, 1) := by decide +kernel
theorem dL_law_3670 : decode cL_law 3670 = .ok (.laload, 1) := by decide +kernel
theorem dL_law_3671 : decode cL_law 3671 = .ok (.iload 7, 2) := by decide +kernel
theorem dL_law_3673 : decode cL_law 3673 = .ok (.i2l, 1) := by decide +kernel
theorem dL_law_3674 : decode cL_law 3674 = .ok (.lcmp, 1) := by decide +kernel
theorem dL_law_3675 : decode cL_law 3675 = .ok (.ifCond .eq 5, 3) := by decide +kernel
theorem dL_law_3678 : decode cL_law 3678 = .ok (.iconst 0, 1) := by decide +kernel
theorem dL_law_3679 : decode cL_law 3679 = .ok (.ireturn, 1) := by decide +kernel
theorem dL_law_3680 : decode cL_law 3680 = .ok (.goto 569, 3) := by decide +kernel
theorem dL_law_3683 : decode cL_law 3683 = .ok (.aload_n 1, 1) := by decide +kernel
theorem dL_law_3684 : decode cL_law 3684 = .ok (.aload_n 0, 1) := by decide +kernel
theorem dL_law_3685 : decode cL_law 3685 = .ok (.iload 5, 2) := by decide +kernel
theorem dL_law_3687 : decode cL_law 3687 = .ok (.iconst 1, 1) := by decide +kernel
theorem dL_law_3688 : decode cL_law 3688 = .ok (.iadd, 1) := by decide +kernel
theorem dL_law_3689 : decode cL_law 3689 = .ok (.iaload, 1) := by decide +kernel
theorem dL_law_3690 : decode cL_law 3690 = .ok (.aload_n 0, 1) := by decide +kernel
theorem dL_law_3691 : decode cL_law 3691 = .ok (.iload 5, 2) := by decide +kernel
theorem dL_law_3693 : decode cL_law 3693 = .ok (.iconst 2, 1) := by decide +kernel
theorem dL_law_3694 : decode cL_law 3694 = .ok (.iadd, 1) := by decide +kernel
theorem dL_law_3695 : decode cL_law 3695 = .ok (.iaload, 1) := by decide +kernel
theorem dL_law_3696 : decode cL_law 3696 = .ok (.aload_n 3, 1) := by decide +kernel
theorem dL_law_3697 : decode cL_law 3697 = .ok (.invokestatic 367, 3) := by decide +kernel
theorem dL_law_3700 : decode cL_law 3700 = .ok (.istore 6, 2) := by decide +kernel
theorem dL_law_3702 : decode cL_law 3702 = .ok (.aload_n 2, 1) := by decide +kernel
theorem dL_law_3703 : decode cL_law 3703 = .ok (.aload_n 0, 1) := by decide +kernel
theorem dL_law_3704 : decode cL_law 3704 = .ok (.iload 5, 2) := by decide +kernel
theorem dL_law_3706 : decode cL_law 3706 = .ok (.iconst 1, 1) := by decide +kernel
theorem dL_law_3707 : decode cL_law 3707 = .ok (.iadd, 1) := by decide +kernel
theorem dL_law_3708 : decode cL_law 3708 = .ok (.iaload, 1) := by decide +kernel
theorem dL_law_3709 : decode cL_law 3709 = .ok (.aload_n 0, 1) := by decide +kernel
theorem dL_law_3710 : decode cL_law 3710 = .ok (.iload 5, 2) := by decide +kernel
theorem dL_law_3712 : decode cL_law 3712 = .ok (.iconst 2, 1) := by decide +kernel
theorem dL_law_3713 : decode cL_law 3713 = .ok (.iadd, 1) := by decide +kernel
theorem dL_law_3714 : decode cL_law 3714 = .ok (.iaload, 1) := by decide +kernel
theorem dL_law_3715 : decode cL_law 3715 = .ok (.invokevirtual 369, 3) := by decide +kernel
theorem dL_law_3718 : decode cL_law 3718 = .ok (.istore 7, 2) := by decide +kernel
theorem dL_law_3720 : decode cL_law 3720 = .ok (.aload_n 2, 1) := by decide +kernel
theorem dL_law_3721 : decode cL_law 3721 = .ok (.invokevirtual 202, 3) := by decide +kernel
theorem dL_law_3724 : decode cL_law 3724 = .ok (.iload 6, 2) := by decide +kernel
theorem dL_law_3726 : decode cL_law 3726 = .ok (.if_icmp .eq 5, 3) := by decide +kernel
theorem dL_law_3729 : decode cL_law 3729 = .ok (.iconst 0, 1) := by decide +kernel
theorem dL_law_3730 : decode cL_law 3730 = .ok (.ireturn, 1) := by decide +kernel
theorem dL_law_3731 : decode cL_law 3731 = .ok (.iload 6, 2) := by decide +kernel
theorem dL_law_3733 : decode cL_law 3733 = .ok (.ifCond .ne 15, 3) := by decide +kernel
theorem dL_law_3736 : decode cL_law 3736 = .ok (.aload_n 3, 1) := by decide +kernel
theorem dL_law_3737 : decode cL_law 3737 = .ok (.iconst 0, 1) := by decide +kernel
theorem dL_law_3738 : decode cL_law 3738 = .ok (.laload, 1) := by decide +kernel
theorem dL_law_3739 : decode cL_law 3739 = .ok (.iload 7, 2) := by decide +kernel
theorem dL_law_3741 : decode cL_law 3741 = .ok (.i2l, 1) := by decide +kernel
theorem dL_law_3742 : decode cL_law 3742 = .ok (.lcmp, 1) := by decide +kernel
theorem dL_law_3743 : decode cL_law 3743 = .ok (.ifCond .eq 5, 3) := by decide +kernel
theorem dL_law_3746 : decode cL_law 3746 = .ok (.iconst 0, 1) := by decide +kernel
theorem dL_law_3747 : decode cL_law 3747 = .ok (.ireturn, 1) := by decide +kernel
theorem dL_law_3748 : decode cL_law 3748 = .ok (.goto 501, 3) := by decide +kernel
theorem dL_law_3751 : decode cL_law 3751 = .ok (.aload_n 1, 1) := by decide +kernel
theorem dL_law_3752 : decode cL_law 3752 = .ok (.invokevirtual 370, 3) := by decide +kernel
theorem dL_law_3755 : decode cL_law 3755 = .ok (.aload_n 2, 1) := by decide +kernel
theorem dL_law_3756 : decode cL_law 3756 = .ok (.invokevirtual 373, 3) := by decide +kernel
theorem dL_law_3759 : decode cL_law 3759 = .ok (.if_icmp .eq 490, 3) := by decide +kernel
theorem dL_law_3762 : decode cL_law 3762 = .ok (.iconst 0, 1) := by decide +kernel
theorem dL_law_3763 : decode cL_law 3763 = .ok (.ireturn, 1) := by decide +kernel
theorem dL_law_3764 : decode cL_law 3764 = .ok (.aload_n 1, 1) := by decide +kernel
theorem dL_law_3765 : decode cL_law 3765 = .ok (.aload_n 0, 1) := by decide +kernel
theorem dL_law_3766 : decode cL_law 3766 = .ok (.iload 5, 2) := by decide +kernel
theorem dL_law_3768 : decode cL_law 3768 = .ok (.iconst 1, 1) := by decide +kernel
theorem dL_law_3769 : decode cL_law 3769 = .ok (.iadd, 1) := by decide +kernel
theorem dL_law_3770 : decode cL_law 3770 = .ok (.iaload, 1) := by decide +kernel
theorem dL_law_3771 : decode cL_law 3771 = .ok (.aload_n 0, 1) := by decide +kernel
theorem dL_law_3772 : decode cL_law 3772 = .ok (.iload 5, 2) := by decide +kernel
theorem dL_law_3774 : decode cL_law 3774 = .ok (.iconst 2, 1) := by decide +kernel
theorem dL_law_3775 : decode cL_law 3775 = .ok (.iadd, 1) := by decide +kernel
theorem dL_law_3776 : decode cL_law 3776 = .ok (.iaload, 1) := by decide +kernel
theorem dL_law_3777 : decode cL_law 3777 = .ok (.aload_n 3, 1) := by decide +kernel
theorem dL_law_3778 : decode cL_law 3778 = .ok (.invokestatic 374, 3) := by decide +kernel
theorem dL_law_3781 : decode cL_law 3781 = .ok (.istore 6, 2) := by decide +kernel
theorem dL_law_3783 : decode cL_law 3783 = .ok (.aload_n 2, 1) := by decide +kernel
theorem dL_law_3784 : decode cL_law 3784 = .ok (.aload_n 0, 1) := by decide +kernel
theorem dL_law_3785 : decode cL_law 3785 = .ok (.iload 5, 2) := by decide +kernel
theorem dL_law_3787 : decode cL_law 3787 = .ok (.iconst 1, 1) := by decide +kernel
theorem dL_law_3788 : decode cL_law 3788 = .ok (.iadd, 1) := by decide +kernel
theorem dL_law_3789 : decode cL_law 3789 = .ok (.iaload, 1) := by decide +kernel
theorem dL_law_3790 : decode cL_law 3790 = .ok (.aload_n 0, 1) := by decide +kernel
theorem dL_law_3791 : decode cL_law 3791 = .ok (.iload 5, 2) := by decide +kernel
theorem dL_law_3793 : decode cL_law 3793 = .ok (.iconst 2, 1) := by decide +kernel
theorem dL_law_3794 : decode cL_law 3794 = .ok (.iadd, 1) := by decide +kernel
theorem dL_law_3795 : decode cL_law 3795 = .ok (.iaload, 1) := by decide +kernel
theorem dL_law_3796 : decode cL_law 3796 = .ok (.invokevirtual 376, 3) := by decide +kernel
theorem dL_law_3799 : decode cL_law 3799 = .ok (.istore 7, 2) := by decide +kernel
theorem dL_law_3801 : decode cL_law 3801 = .ok (.aload_n 2, 1) := by decide +kernel
theorem dL_law_3802 : decode cL_law 3802 = .ok (.invokevirtual 202, 3) := by decide +kernel
theorem dL_law_3805 : decode cL_law 3805 = .ok (.iload 6, 2) := by decide +kernel
theorem dL_law_3807 : decode cL_law 3807 = .ok (.if_icmp .eq 5, 3) := by decide +kernel
theorem dL_law_3810 : decode cL_law 3810 = .ok (.iconst 0, 1) := by decide +kernel
theorem dL_law_3811 : decode cL_law 3811 = .ok (.ireturn, 1) := by decide +kernel
theorem dL_law_3812 : decode cL_law 3812 = .ok (.iload 6, 2) := by decide +kernel
theorem dL_law_3814 : decode cL_law 3814 = .ok (.ifCond .ne 15, 3) := by decide +kernel
theorem dL_law_3817 : decode cL_law 3817 = .ok (.aload_n 3, 1) := by decide +kernel
theorem dL_law_3818 : decode cL_law 3818 = .ok (.iconst 0, 1) := by decide +kernel
theorem dL_law_3819 : decode cL_law 3819 = .ok (.laload, 1) := by decide +kernel
theorem dL_law_3820 : decode cL_law 3820 = .ok (.iload 7, 2) := by decide +kernel
theorem dL_law_3822 : decode cL_law 3822 = .ok (.i2l, 1) := by decide +kernel
theorem dL_law_3823 : decode cL_law 3823 = .ok (.lcmp, 1) := by decide +kernel
theorem dL_law_3824 : decode cL_law 3824 = .ok (.ifCond .eq 5, 3) := by decide +kernel
theorem dL_law_3827 : decode cL_law 3827 = .ok (.iconst 0, 1) := by decide +kernel
theorem dL_law_3828 : decode cL_law 3828 = .ok (.ireturn, 1) := by decide +kernel
theorem dL_law_3829 : decode cL_law 3829 = .ok (.goto 420, 3) := by decide +kernel
theorem dL_law_3832 : decode cL_law 3832 = .ok (.aload_n 1, 1) := by decide +kernel
theorem dL_law_3833 : decode cL_law 3833 = .ok (.aload_n 0, 1) := by decide +kernel
theorem dL_law_3834 : decode cL_law 3834 = .ok (.iload 5, 2) := by decide +kernel
theorem dL_law_3836 : decode cL_law 3836 = .ok (.iconst 1, 1) := by decide +kernel
theorem dL_law_3837 : decode cL_law 3837 = .ok (.iadd, 1) := by decide +kernel
theorem dL_law_3838 : decode cL_law 3838 = .ok (.iaload, 1) := by decide +kernel
theorem dL_law_3839 : decode cL_law 3839 = .ok (.aload_n 0, 1) := by decide +kernel
theorem dL_law_3840 : decode cL_law 3840 = .ok (.iload 5, 2) := by decide +kernel
theorem dL_law_3842 : decode cL_law 3842 = .ok (.iconst 2, 1) := by decide +kernel
theorem dL_law_3843 : decode cL_law 3843 = .ok (.iadd, 1) := by decide +kernel
theorem dL_law_3844 : decode cL_law 3844 = .ok (.iaload, 1) := by decide +kernel
theorem dL_law_3845 : decode cL_law 3845 = .ok (.aload_n 3, 1) := by decide +kernel
theorem dL_law_3846 : decode cL_law 3846 = .ok (.invokestatic 377, 3) := by decide +kernel
theorem dL_law_3849 : decode cL_law 3849 = .ok (.istore 6, 2) := by decide +kernel
theorem dL_law_3851 : decode cL_law 3851 = .ok (.aload_n 2, 1) := by decide +kernel
theorem dL_law_3852 : decode cL_law 3852 = .ok (.aload_n 0, 1) := by decide +kernel
theorem dL_law_3853 : decode cL_law 3853 = .ok (.iload 5, 2) := by decide +kernel
theorem dL_law_3855 : decode cL_law 3855 = .ok (.iconst 1, 1) := by decide +kernel
theorem dL_law_3856 : decode cL_law 3856 = .ok (.iadd, 1) := by decide +kernel
theorem dL_law_3857 : decode cL_law 3857 = .ok (.iaload, 1) := by decide +kernel
theorem dL_law_3858 : decode cL_law 3858 = .ok (.aload_n 0, 1) := by decide +kernel
theorem dL_law_3859 : decode cL_law 3859 = .ok (.iload 5, 2) := by decide +kernel
theorem dL_law_3861 : decode cL_law 3861 = .ok (.iconst 2, 1) := by decide +kernel
theorem dL_law_3862 : decode cL_law 3862 = .ok (.iadd, 1) := by decide +kernel
theorem dL_law_3863 : decode cL_law 3863 = .ok (.iaload, 1) := by decide +kernel
theorem dL_law_3864 : decode cL_law 3864 = .ok (.invokevirtual 379, 3) := by decide +kernel
theorem dL_law_3867 : decode cL_law 3867 = .ok (.istore 7, 2) := by decide +kernel
theorem dL_law_3869 : decode cL_law 3869 = .ok (.aload_n 2, 1) := by decide +kernel
theorem dL_law_3870 : decode cL_law 3870 = .ok (.invokevirtual 202, 3) := by decide +kernel
theorem dL_law_3873 : decode cL_law 3873 = .ok (.iload 6, 2) := by decide +kernel
theorem dL_law_3875 : decode cL_law 3875 = .ok (.if_icmp .eq 5, 3) := by decide +kernel
theorem dL_law_3878 : decode cL_law 3878 = .ok (.iconst 0, 1) := by decide +kernel
theorem dL_law_3879 : decode cL_law 3879 = .ok (.ireturn, 1) := by decide +kernel
theorem dL_law_3880 : decode cL_law 3880 = .ok (.iload 6, 2) := by decide +kernel
theorem dL_law_3882 : decode cL_law 3882 = .ok (.ifCond .ne 15, 3) := by decide +kernel
theorem dL_law_3885 : decode cL_law 3885 = .ok (.aload_n 3, 1) := by decide +kernel
theorem dL_law_3886 : decode cL_law 3886 = .ok (.iconst 0, 1) := by decide +kernel
theorem dL_law_3887 : decode cL_law 3887 = .ok (.laload, 1) := by decide +kernel
theorem dL_law_3888 : decode cL_law 3888 = .ok (.iload 7, 2) := by decide +kernel
theorem dL_law_3890 : decode cL_law 3890 = .ok (.i2l, 1) := by decide +kernel
theorem dL_law_3891 : decode cL_law 3891 = .ok (.lcmp, 1) := by decide +kernel
theorem dL_law_3892 : decode cL_law 3892 = .ok (.ifCond .eq 5, 3) := by decide +kernel
theorem dL_law_3895 : decode cL_law 3895 = .ok (.iconst 0, 1) := by decide +kernel
theorem dL_law_3896 : decode cL_law 3896 = .ok (.ireturn, 1) := by decide +kernel
theorem dL_law_3897 : decode cL_law 3897 = .ok (.goto 352, 3) := by decide +kernel
theorem dL_law_3900 : decode cL_law 3900 = .ok (.aload_n 1, 1) := by decide +kernel
theorem dL_law_3901 : decode cL_law 3901 = .ok (.aload_n 0, 1) := by decide +kernel
theorem dL_law_3902 : decode cL_law 3902 = .ok (.iload 5, 2) := by decide +kernel
theorem dL_law_3904 : decode cL_law 3904 = .ok (.iconst 1, 1) := by decide +kernel
theorem dL_law_3905 : decode cL_law 3905 = .ok (.iadd, 1) := by decide +kernel
theorem dL_law_3906 : decode cL_law 3906 = .ok (.iaload, 1) := by decide +kernel
theorem dL_law_3907 : decode cL_law 3907 = .ok (.aload_n 3, 1) := by decide +kernel
theorem dL_law_3908 : decode cL_law 3908 = .ok (.invokestatic 380, 3) := by decide +kernel
theorem dL_law_3911 : decode cL_law 3911 = .ok (.istore 6, 2) := by decide +kernel
theorem dL_law_3913 : decode cL_law 3913 = .ok (.aload_n 2, 1) := by decide +kernel
theorem dL_law_3914 : decode cL_law 3914 = .ok (.aload_n 0, 1) := by decide +kernel
theorem dL_law_3915 : decode cL_law 3915 = .ok (.iload 5, 2) := by decide +kernel
theorem dL_law_3917 : decode cL_law 3917 = .ok (.iconst 1, 1) := by decide +kernel
theorem dL_law_3918 : decode cL_law 3918 = .ok (.iadd, 1) := by decide +kernel
theorem dL_law_3919 : decode cL_law 3919 = .ok (.iaload, 1) := by decide +kernel
theorem dL_law_3920 : decode cL_law 3920 = .ok (.invokevirtual 382, 3) := by decide +kernel
theorem dL_law_3923 : decode cL_law 3923 = .ok (.istore 7, 2) := by decide +kernel
theorem dL_law_3925 : decode cL_law 3925 = .ok (.aload_n 2, 1) := by decide +kernel
theorem dL_law_3926 : decode cL_law 3926 = .ok (.invokevirtual 202, 3) := by decide +kernel
theorem dL_law_3929 : decode cL_law 3929 = .ok (.iload 6, 2) := by decide +kernel
theorem dL_law_3931 : decode cL_law 3931 = .ok (.if_icmp .eq 5, 3) := by decide +kernel
theorem dL_law_3934 : decode cL_law 3934 = .ok (.iconst 0, 1) := by decide +kernel
theorem dL_law_3935 : decode cL_law 3935 = .ok (.ireturn, 1) := by decide +kernel
theorem dL_law_3936 : decode cL_law 3936 = .ok (.iload 6, 2) := by decide +kernel
theorem dL_law_3938 : decode cL_law 3938 = .ok (.ifCond .ne 15, 3) := by decide +kernel
theorem dL_law_3941 : decode cL_law 3941 = .ok (.aload_n 3, 1) := by decide +kernel
theorem dL_law_3942 : decode cL_law 3942 = .ok (.iconst 0, 1) := by decide +kernel
theorem dL_law_3943 : decode cL_law 3943 = .ok (.laload, 1) := by decide +kernel
theorem dL_law_3944 : decode cL_law 3944 = .ok (.iload 7, 2) := by decide +kernel
theorem dL_law_3946 : decode cL_law 3946 = .ok (.i2l, 1) := by decide +kernel
theorem dL_law_3947 : decode cL_law 3947 = .ok (.lcmp, 1) := by decide +kernel
theorem dL_law_3948 : decode cL_law 3948 = .ok (.ifCond .eq 5, 3) := by decide +kernel
theorem dL_law_3951 : decode cL_law 3951 = .ok (.iconst 0, 1) := by decide +kernel
theorem dL_law_3952 : decode cL_law 3952 = .ok (.ireturn, 1) := by decide +kernel
theorem dL_law_3953 : decode cL_law 3953 = .ok (.goto 296, 3) := by decide +kernel
theorem dL_law_3956 : decode cL_law 3956 = .ok (.aload_n 1, 1) := by decide +kernel
theorem dL_law_3957 : decode cL_law 3957 = .ok (.aload_n 0, 1) := by decide +kernel
theorem dL_law_3958 : decode cL_law 3958 = .ok (.iload 5, 2) := by decide +kernel
theorem dL_law_3960 : decode cL_law 3960 = .ok (.iconst 1, 1) := by decide +kernel
theorem dL_law_3961 : decode cL_law 3961 = .ok (.iadd, 1) := by decide +kernel
theorem dL_law_3962 : decode cL_law 3962 = .ok (.iaload, 1) := by decide +kernel
theorem dL_law_3963 : decode cL_law 3963 = .ok (.aload_n 0, 1) := by decide +kernel
theorem dL_law_3964 : decode cL_law 3964 = .ok (.iload 5, 2) := by decide +kernel
theorem dL_law_3966 : decode cL_law 3966 = .ok (.iconst 2, 1) := by decide +kernel
theorem dL_law_3967 : decode cL_law 3967 = .ok (.iadd, 1) := by decide +kernel
theorem dL_law_3968 : decode cL_law 3968 = .ok (.iaload, 1) := by decide +kernel
theorem dL_law_3969 : decode cL_law 3969 = .ok (.aload_n 3, 1) := by decide +kernel
theorem dL_law_3970 : decode cL_law 3970 = .ok (.invokestatic 383, 3) := by decide +kernel
theorem dL_law_3973 : decode cL_law 3973 = .ok (.istore 6, 2) := by decide +kernel
theorem dL_law_3975 : decode cL_law 3975 = .ok (.aload_n 2, 1) := by decide +kernel
theorem dL_law_3976 : decode cL_law 3976 = .ok (.aload_n 0, 1) := by decide +kernel
theorem dL_law_3977 : decode cL_law 3977 = .ok (.iload 5, 2) := by decide +kernel
theorem dL_law_3979 : decode cL_law 3979 = .ok (.iconst 1, 1) := by decide +kernel
theorem dL_law_3980 : decode cL_law 3980 = .ok (.iadd, 1) := by decide +kernel
theorem dL_law_3981 : decode cL_law 3981 = .ok (.iaload, 1) := by decide +kernel
theorem dL_law_3982 : decode cL_law 3982 = .ok (.aload_n 0, 1) := by decide +kernel
theorem dL_law_3983 : decode cL_law 3983 = .ok (.iload 5, 2) := by decide +kernel
theorem dL_law_3985 : decode cL_law 3985 = .ok (.iconst 2, 1) := by decide +kernel
theorem dL_law_3986 : decode cL_law 3986 = .ok (.iadd, 1) := by decide +kernel
theorem dL_law_3987 : decode cL_law 3987 = .ok (.iaload, 1) := by decide +kernel
theorem dL_law_3988 : decode cL_law 3988 = .ok (.invokevirtual 385, 3) := by decide +kernel
theorem dL_law_3991 : decode cL_law 3991 = .ok (.istore 7, 2) := by decide +kernel
theorem dL_law_3993 : decode cL_law 3993 = .ok (.aload_n 2, 1) := by decide +kernel
theorem dL_law_3994 : decode cL_law 3994 = .ok (.invokevirtual 202, 3) := by decide +kernel
theorem dL_law_3997 : decode cL_law 3997 = .ok (.iload 6, 2) := by decide +kernel
theorem dL_law_3999 : decode cL_law 3999 = .ok (.if_icmp .eq 5, 3) := by decide +kernel
theorem dL_law_4002 : decode cL_law 4002 = .ok (.iconst 0, 1) := by decide +kernel
theorem dL_law_4003 : decode cL_law 4003 = .ok (.ireturn, 1) := by decide +kernel
theorem dL_law_4004 : decode cL_law 4004 = .ok (.iload 6, 2) := by decide +kernel
theorem dL_law_4006 : decode cL_law 4006 = .ok (.ifCond .ne 15, 3) := by decide +kernel
theorem dL_law_4009 : decode cL_law 4009 = .ok (.aload_n 3, 1) := by decide +kernel
theorem dL_law_4010 : decode cL_law 4010 = .ok (.iconst 0, 1) := by decide +kernel
theorem dL_law_4011 : decode cL_law 4011 = .ok (.laload, 1) := by decide +kernel
theorem dL_law_4012 : decode cL_law 4012 = .ok (.iload 7, 2) := by decide +kernel
theorem dL_law_4014 : decode cL_law 4014 = .ok (.i2l, 1) := by decide +kernel
theorem dL_law_4015 : decode cL_law 4015 = .ok (.lcmp, 1) := by decide +kernel
theorem dL_law_4016 : decode cL_law 4016 = .ok (.ifCond .eq 5, 3) := by decide +kernel
theorem dL_law_4019 : decode cL_law 4019 = .ok (.iconst 0, 1) := by decide +kernel
theorem dL_law_4020 : decode cL_law 4020 = .ok (.ireturn, 1) := by decide +kernel
theorem dL_law_4021 : decode cL_law 4021 = .ok (.goto 228, 3) := by decide +kernel
theorem dL_law_4024 : decode cL_law 4024 = .ok (.aload_n 1, 1) := by decide +kernel
theorem dL_law_4025 : decode cL_law 4025 = .ok (.aload_n 0, 1) := by decide +kernel
theorem dL_law_4026 : decode cL_law 4026 = .ok (.iload 5, 2) := by decide +kernel
theorem dL_law_4028 : decode cL_law 4028 = .ok (.iconst 1, 1) := by decide +kernel
theorem dL_law_4029 : decode cL_law 4029 = .ok (.iadd, 1) := by decide +kernel
theorem dL_law_4030 : decode cL_law 4030 = .ok (.iaload, 1) := by decide +kernel
theorem dL_law_4031 : decode cL_law 4031 = .ok (.aload_n 3, 1) := by decide +kernel
theorem dL_law_4032 : decode cL_law 4032 = .ok (.invokestatic 386, 3) := by decide +kernel
theorem dL_law_4035 : decode cL_law 4035 = .ok (.istore 6, 2) := by decide +kernel
theorem dL_law_4037 : decode cL_law 4037 = .ok (.aload_n 2, 1) := by decide +kernel
theorem dL_law_4038 : decode cL_law 4038 = .ok (.aload_n 0, 1) := by decide +kernel
theorem dL_law_4039 : decode cL_law 4039 = .ok (.iload 5, 2) := by decide +kernel
theorem dL_law_4041 : decode cL_law 4041 = .ok (.iconst 1, 1) := by decide +kernel
theorem dL_law_4042 : decode cL_law 4042 = .ok (.iadd, 1) := by decide +kernel
theorem dL_law_4043 : decode cL_law 4043 = .ok (.iaload, 1) := by decide +kernel
theorem dL_law_4044 : decode cL_law 4044 = .ok (.invokevirtual 388, 3) := by decide +kernel
theorem dL_law_4047 : decode cL_law 4047 = .ok (.istore 7, 2) := by decide +kernel
theorem dL_law_4049 : decode cL_law 4049 = .ok (.aload_n 2, 1) := by decide +kernel
theorem dL_law_4050 : decode cL_law 4050 = .ok (.invokevirtual 202, 3) := by decide +kernel
theorem dL_law_4053 : decode cL_law 4053 = .ok (.iload 6, 2) := by decide +kernel
theorem dL_law_4055 : decode cL_law 4055 = .ok (.if_icmp .eq 5, 3) := by decide +kernel
theorem dL_law_4058 : decode cL_law 4058 = .ok (.iconst 0, 1) := by decide +kernel
theorem dL_law_4059 : decode cL_law 4059 = .ok (.ireturn, 1) := by decide +kernel
theorem dL_law_4060 : decode cL_law 4060 = .ok (.iload 6, 2) := by decide +kernel
theorem dL_law_4062 : decode cL_law 4062 = .ok (.ifCond .ne 15, 3) := by decide +kernel
theorem dL_law_4065 : decode cL_law 4065 = .ok (.aload_n 3, 1) := by decide +kernel
theorem dL_law_4066 : decode cL_law 4066 = .ok (.iconst 0, 1) := by decide +kernel
theorem dL_law_4067 : decode cL_law 4067 = .ok (.laload, 1) := by decide +kernel
theorem dL_law_4068 : decode cL_law 4068 = .ok (.iload 7, 2) := by decide +kernel
theorem dL_law_4070 : decode cL_law 4070 = .ok (.i2l, 1) := by decide +kernel
theorem dL_law_4071 : decode cL_law 4071 = .ok (.lcmp, 1) := by decide +kernel
theorem dL_law_4072 : decode cL_law 4072 = .ok (.ifCond .eq 5, 3) := by decide +kernel
theorem dL_law_4075 : decode cL_law 4075 = .ok (.iconst 0, 1) := by decide +kernel
theorem dL_law_4076 : decode cL_law 4076 = .ok (.ireturn, 1) := by decide +kernel
theorem dL_law_4077 : decode cL_law 4077 = .ok (.goto 172, 3) := by decide +kernel
theorem dL_law_4080 : decode cL_law 4080 = .ok (.aload_n 1, 1) := by decide +kernel
theorem dL_law_4081 : decode cL_law 4081 = .ok (.aload_n 0, 1) := by decide +kernel
theorem dL_law_4082 : decode cL_law 4082 = .ok (.iload 5, 2) := by decide +kernel
theorem dL_law_4084 : decode cL_law 4084 = .ok (.iconst 1, 1) := by decide +kernel
theorem dL_law_4085 : decode cL_law 4085 = .ok (.iadd, 1) := by decide +kernel
theorem dL_law_4086 : decode cL_law 4086 = .ok (.iaload, 1) := by decide +kernel
theorem dL_law_4087 : decode cL_law 4087 = .ok (.aload_n 3, 1) := by decide +kernel
theorem dL_law_4088 : decode cL_law 4088 = .ok (.invokestatic 389, 3) := by decide +kernel
theorem dL_law_4091 : decode cL_law 4091 = .ok (.istore 6, 2) := by decide +kernel
theorem dL_law_4093 : decode cL_law 4093 = .ok (.aload_n 2, 1) := by decide +kernel
theorem dL_law_4094 : decode cL_law 4094 = .ok (.aload_n 0, 1) := by decide +kernel
theorem dL_law_4095 : decode cL_law 4095 = .ok (.iload 5, 2) := by decide +kernel
theorem dL_law_4097 : decode cL_law 4097 = .ok (.iconst 1, 1) := by decide +kernel
theorem dL_law_4098 : decode cL_law 4098 = .ok (.iadd, 1) := by decide +kernel
theorem dL_law_4099 : decode cL_law 4099 = .ok (.iaload, 1) := by decide +kernel
theorem dL_law_4100 : decode cL_law 4100 = .ok (.invokevirtual 391, 3) := by decide +kernel
theorem dL_law_4103 : decode cL_law 4103 = .ok (.istore 7, 2) := by decide +kernel
theorem dL_law_4105 : decode cL_law 4105 = .ok (.aload_n 2, 1) := by decide +kernel
theorem dL_law_4106 : decode cL_law 4106 = .ok (.invokevirtual 202, 3) := by decide +kernel
theorem dL_law_4109 : decode cL_law 4109 = .ok (.iload 6, 2) := by decide +kernel
theorem dL_law_4111 : decode cL_law 4111 = .ok (.if_icmp .eq 5, 3) := by decide +kernel
theorem dL_law_4114 : decode cL_law 4114 = .ok (.iconst 0, 1) := by decide +kernel
theorem dL_law_4115 : decode cL_law 4115 = .ok (.ireturn, 1) := by decide +kernel
theorem dL_law_4116 : decode cL_law 4116 = .ok (.iload 6, 2) := by decide +kernel
theorem dL_law_4118 : decode cL_law 4118 = .ok (.ifCond .ne 15, 3) := by decide +kernel
theorem dL_law_4121 : decode cL_law 4121 = .ok (.aload_n 3, 1) := by decide +kernel
theorem dL_law_4122 : decode cL_law 4122 = .ok (.iconst 0, 1) := by decide +kernel
theorem dL_law_4123 : decode cL_law 4123 = .ok (.laload, 1) := by decide +kernel
theorem dL_law_4124 : decode cL_law 4124 = .ok (.iload 7, 2) := by decide +kernel
theorem dL_law_4126 : decode cL_law 4126 = .ok (.i2l, 1) := by decide +kernel
theorem dL_law_4127 : decode cL_law 4127 = .ok (.lcmp, 1) := by decide +kernel
theorem dL_law_4128 : decode cL_law 4128 = .ok (.ifCond .eq 5, 3) := by decide +kernel
theorem dL_law_4131 : decode cL_law 4131 = .ok (.iconst 0, 1) := by decide +kernel
theorem dL_law_4132 : decode cL_law 4132 = .ok (.ireturn, 1) := by decide +kernel
theorem dL_law_4133 : decode cL_law 4133 = .ok (.goto 116, 3) := by decide +kernel
theorem dL_law_4136 : decode cL_law 4136 = .ok (.aload_n 1, 1) := by decide +kernel
theorem dL_law_4137 : decode cL_law 4137 = .ok (.aload_n 0, 1) := by decide +kernel
theorem dL_law_4138 : decode cL_law 4138 = .ok (.iload 5, 2) := by decide +kernel
theorem dL_law_4140 : decode cL_law 4140 = .ok (.iconst 1, 1) := by decide +kernel
theorem dL_law_4141 : decode cL_law 4141 = .ok (.iadd, 1) := by decide +kernel
theorem dL_law_4142 : decode cL_law 4142 = .ok (.iaload, 1) := by decide +kernel
theorem dL_law_4143 : decode cL_law 4143 = .ok (.aload_n 3, 1) := by decide +kernel
theorem dL_law_4144 : decode cL_law 4144 = .ok (.invokestatic 392, 3) := by decide +kernel
theorem dL_law_4147 : decode cL_law 4147 = .ok (.istore 6, 2) := by decide +kernel
theorem dL_law_4149 : decode cL_law 4149 = .ok (.aload_n 2, 1) := by decide +kernel
theorem dL_law_4150 : decode cL_law 4150 = .ok (.aload_n 0, 1) := by decide +kernel
theorem dL_law_4151 : decode cL_law 4151 = .ok (.iload 5, 2) := by decide +kernel
theorem dL_law_4153 : decode cL_law 4153 = .ok (.iconst 1, 1) := by decide +kernel
theorem dL_law_4154 : decode cL_law 4154 = .ok (.iadd, 1) := by decide +kernel
theorem dL_law_4155 : decode cL_law 4155 = .ok (.iaload, 1) := by decide +kernel
theorem dL_law_4156 : decode cL_law 4156 = .ok (.invokevirtual 394, 3) := by decide +kernel
theorem dL_law_4159 : decode cL_law 4159 = .ok (.istore 7, 2) := by decide +kernel
theorem dL_law_4161 : decode cL_law 4161 = .ok (.aload_n 2, 1) := by decide +kernel
theorem dL_law_4162 : decode cL_law 4162 = .ok (.invokevirtual 202, 3) := by decide +kernel
theorem dL_law_4165 : decode cL_law 4165 = .ok (.iload 6, 2) := by decide +kernel
theorem dL_law_4167 : decode cL_law 4167 = .ok (.if_icmp .eq 5, 3) := by decide +kernel
theorem dL_law_4170 : decode cL_law 4170 = .ok (.iconst 0, 1) := by decide +kernel
theorem dL_law_4171 : decode cL_law 4171 = .ok (.ireturn, 1) := by decide +kernel
theorem dL_law_4172 : decode cL_law 4172 = .ok (.iload 6, 2) := by decide +kernel
theorem dL_law_4174 : decode cL_law 4174 = .ok (.ifCond .ne 15, 3) := by decide +kernel
theorem dL_law_4177 : decode cL_law 4177 = .ok (.aload_n 3, 1) := by decide +kernel
theorem dL_law_4178 : decode cL_law 4178 = .ok (.iconst 0, 1) := by decide +kernel
theorem dL_law_4179 : decode cL_law 4179 = .ok (.laload, 1) := by decide +kernel
theorem dL_law_4180 : decode cL_law 4180 = .ok (.iload 7, 2) := by decide +kernel
theorem dL_law_4182 : decode cL_law 4182 = .ok (.i2l, 1) := by decide +kernel
theorem dL_law_4183 : decode cL_law 4183 = .ok (.lcmp, 1) := by decide +kernel
theorem dL_law_4184 : decode cL_law 4184 = .ok (.ifCond .eq 5, 3) := by decide +kernel
theorem dL_law_4187 : decode cL_law 4187 = .ok (.iconst 0, 1) := by decide +kernel
theorem dL_law_4188 : decode cL_law 4188 = .ok (.ireturn, 1) := by decide +kernel
theorem dL_law_4189 : decode cL_law 4189 = .ok (.goto 60, 3) := by decide +kernel
theorem dL_law_4192 : decode cL_law 4192 = .ok (.aload_n 1, 1) := by decide +kernel
theorem dL_law_4193 : decode cL_law 4193 = .ok (.aload_n 3, 1) := by decide +kernel
theorem dL_law_4194 : decode cL_law 4194 = .ok (.invokestatic 395, 3) := by decide +kernel
theorem dL_law_4197 : decode cL_law 4197 = .ok (.istore 6, 2) := by decide +kernel
theorem dL_law_4199 : decode cL_law 4199 = .ok (.aload_n 2, 1) := by decide +kernel
theorem dL_law_4200 : decode cL_law 4200 = .ok (.invokevirtual 397, 3) := by decide +kernel
theorem dL_law_4203 : decode cL_law 4203 = .ok (.istore 7, 2) := by decide +kernel
theorem dL_law_4205 : decode cL_law 4205 = .ok (.aload_n 2, 1) := by decide +kernel
theorem dL_law_4206 : decode cL_law 4206 = .ok (.invokevirtual 202, 3) := by decide +kernel
theorem dL_law_4209 : decode cL_law 4209 = .ok (.iload 6, 2) := by decide +kernel
theorem dL_law_4211 : decode cL_law 4211 = .ok (.if_icmp .eq 5, 3) := by decide +kernel
theorem dL_law_4214 : decode cL_law 4214 = .ok (.iconst 0, 1) := by decide +kernel
theorem dL_law_4215 : decode cL_law 4215 = .ok (.ireturn, 1) := by decide +kernel
theorem dL_law_4216 : decode cL_law 4216 = .ok (.iload 6, 2) := by decide +kernel
theorem dL_law_4218 : decode cL_law 4218 = .ok (.ifCond .ne 15, 3) := by decide +kernel
theorem dL_law_4221 : decode cL_law 4221 = .ok (.aload_n 3, 1) := by decide +kernel
theorem dL_law_4222 : decode cL_law 4222 = .ok (.iconst 0, 1) := by decide +kernel
theorem dL_law_4223 : decode cL_law 4223 = .ok (.laload, 1) := by decide +kernel
theorem dL_law_4224 : decode cL_law 4224 = .ok (.iload 7, 2) := by decide +kernel
theorem dL_law_4226 : decode cL_law 4226 = .ok (.i2l, 1) := by decide +kernel
theorem dL_law_4227 : decode cL_law 4227 = .ok (.lcmp, 1) := by decide +kernel
theorem dL_law_4228 : decode cL_law 4228 = .ok (.ifCond .eq 5, 3) := by decide +kernel
theorem dL_law_4231 : decode cL_law 4231 = .ok (.iconst 0, 1) := by decide +kernel
theorem dL_law_4232 : decode cL_law 4232 = .ok (.ireturn, 1) := by decide +kernel
theorem dL_law_4233 : decode cL_law 4233 = .ok (.goto 16, 3) := by decide +kernel
theorem dL_law_4236 : decode cL_law 4236 = .ok (.aload_n 1, 1) := by decide +kernel
theorem dL_law_4237 : decode cL_law 4237 = .ok (.invokevirtual 398, 3) := by decide +kernel
theorem dL_law_4240 : decode cL_law 4240 = .ok (.aload_n 2, 1) := by decide +kernel
theorem dL_law_4241 : decode cL_law 4241 = .ok (.invokevirtual 401, 3) := by decide +kernel
theorem dL_law_4244 : decode cL_law 4244 = .ok (.if_icmp .eq 5, 3) := by decide +kernel
theorem dL_law_4247 : decode cL_law 4247 = .ok (.iconst 0, 1) := by decide +kernel
theorem dL_law_4248 : decode cL_law 4248 = .ok (.ireturn, 1) := by decide +kernel
theorem dL_law_4249 : decode cL_law 4249 = .ok (.iinc 5 6, 3) := by decide +kernel
theorem dL_law_4252 : decode cL_law 4252 = .ok (.goto (-4224), 3) := by decide +kernel
theorem dL_law_4255 : decode cL_law 4255 = .ok (.iconst 1, 1) := by decide +kernel
theorem dL_law_4256 : decode cL_law 4256 = .ok (.ireturn, 1) := by decide +kernel
